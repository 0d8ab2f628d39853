/-! what a town is: attribute, index, value. 0: lofts, doves, open, hawk, dusk; 1 x, 2 y, 3 kind, 4 home, 5 age, 6 at, 7 clipped -/
abbrev Tn : Type := Nat → Int → Int
def up (T : Tn) (a : Nat) (z v : Int) : Tn := fun a' => if a' = a then zup (T a) z v else T a'
/-- a row as a whole -/
def up1 (T : Tn) (a : Nat) (F : Int → Int) : Tn := fun a' => if a' = a then F else T a'
def w0 : List va_W := []
def gT (G : GT) (h : Nat → Nat) (T : Tn) : va_W := [(h 0, .inr (6, [.ref (h 1), .ref (h 2), .ref (h 3), .ref (h 4), .ref (h 5), .ref (h 6), .ref (h 7), .ref (h 8), .int (iI (T 0 0)), .int (iI (T 0 1)), .int (iI (T 0 2)), .int (iI (T 0 3)), .int (iI (T 0 4))])), (h 1, qa G.2.2.1 6 (fun k => some (h (9 + k)))), (h 2, ia G.2.1 6 (T 1)), (h 3, ia G.2.1 6 (T 2)), (h 4, ia G.2.1 8 (T 3)), (h 5, ia G.2.1 8 (T 4)), (h 6, ia G.2.1 8 (T 5)), (h 7, ia G.2.1 8 (T 6)), (h 8, ia G.2.1 8 (T 7)), (h 9, .inr (1, [])), (h 10, .inr (2, [])), (h 11, .inr (7, [])), (h 12, .inr (3, [])), (h 13, .inr (0, [])), (h 14, .inr (4, []))]
def gS (G : GT) (h : Nat → Nat) (S : Tn) : va_W := [(h 0, .inr (5, [.ref (h 1), .int (iI (S 0 0))])), (h 1, ia G.2.1 64 (S 1))]
def gX (G : GT) (a : Nat → Nat) (X : Tn) : va_W := [(a 0, .inr (8, [.ref (a 5), .ref (a 20), .ref (a 35), .ref (a 50), .ref (a 1), .ref (a 2), .ref (a 3), .ref (a 4), .int (iI (X 0 0)), .int (iI (X 0 1))])), (a 1, ia G.2.1 8 (X 1)), (a 2, ia G.2.1 6 (X 2)), (a 3, ia G.2.1 8 (X 3)), (a 4, ia G.2.1 7 (X 4))]
def aN (a : Nat → Nat) : Nat → Nat := fun k => a (5 + k)
def aM (a : Nat → Nat) : Nat → Nat := fun k => a (20 + k)
def aP (a : Nat → Nat) : Nat → Nat := fun k => a (35 + k)
def aS (a : Nat → Nat) : Nat → Nat := fun k => a (50 + k)
def wT (G : GT) (h : Nat → Nat) (T : Tn) : List va_W := [gT G h T]
def wU2 (G : GT) (h1 h2 : Nat → Nat) (T1 T2 : Tn) : List va_W := [gT G h1 T1, gT G h2 T2]
def wS (G : GT) (h : Nat → Nat) (S : Tn) : List va_W := [gS G h S]
def wV (G : GT) (h hS : Nat → Nat) (T S : Tn) : List va_W := [gT G h T, gS G hS S]
def wC (G : GT) (a : Nat → Nat) (X N M P S : Tn) : List va_W := [gX G a X, gT G (aN a) N, gT G (aM a) M, gT G (aP a) P, gS G (aS a) S]
/-- a town as the reference lays it -/
def flat (T : Tn) (z : Int) : Int := if z < 5 then T 0 z else if z < 17 then T (1 + ((z - 5) % 2).toNat) ((z - 5) / 2) else T (3 + ((z - 17) % 5).toNat) ((z - 17) / 5)
/-- the reference: 0: isImage, taped, at, rowed; 1 refusals, 3 image, 4 read, 5 mind, 6 tape, 7 told, 8 row; its town T -/
def wR (G : GT) (b : Nat → Nat) (R T : Tn) : List va_W := [[(b 0, .inr (9, [.ref (b 1), .ref (b 2), .ref (b 3), .ref (b 4), .ref (b 5), .int (iI (R 0 0)), .ref (b 6), .ref (b 7), .int (iI (R 0 1)), .int (iI (R 0 2)), .ref (b 8), .int (iI (R 0 3))]))], [(b 1, ia G.2.1 7 (R 1))], [(b 2, ia G.2.1 57 (flat T))], [(b 3, ia G.2.1 57 (R 3))], [(b 4, ia G.2.1 57 (R 4))], [(b 5, ia G.2.1 57 (R 5))], [(b 6, ia G.2.1 64 (R 6))], [(b 7, ia G.2.1 3 (R 7))], [(b 8, ia G.2.1 8 (R 8))]]
def wL (G : GT) (p q : Nat) (F1 F2 : Int → Int) : List va_W := [[(p, ia G.2.1 57 F1)], [(q, ia G.2.1 57 F2)]]
theorem T_p0_8 (G : GT) (h : Nat → Nat) (T : Tn) (v : Int) : (wT G h T).set 0 ((gT G h T).set 0 (h 0, .inr (6, ([.ref (h 1), .ref (h 2), .ref (h 3), .ref (h 4), .ref (h 5), .ref (h 6), .ref (h 7), .ref (h 8), .int (iI (T 0 0)), .int (iI (T 0 1)), .int (iI (T 0 2)), .int (iI (T 0 3)), .int (iI (T 0 4))] : List Value).set 8 (.int (iI v))))) = wT G h (up T 0 0 v) := rfl
theorem T_p0_9 (G : GT) (h : Nat → Nat) (T : Tn) (v : Int) : (wT G h T).set 0 ((gT G h T).set 0 (h 0, .inr (6, ([.ref (h 1), .ref (h 2), .ref (h 3), .ref (h 4), .ref (h 5), .ref (h 6), .ref (h 7), .ref (h 8), .int (iI (T 0 0)), .int (iI (T 0 1)), .int (iI (T 0 2)), .int (iI (T 0 3)), .int (iI (T 0 4))] : List Value).set 9 (.int (iI v))))) = wT G h (up T 0 1 v) := rfl
theorem T_p0_10 (G : GT) (h : Nat → Nat) (T : Tn) (v : Int) : (wT G h T).set 0 ((gT G h T).set 0 (h 0, .inr (6, ([.ref (h 1), .ref (h 2), .ref (h 3), .ref (h 4), .ref (h 5), .ref (h 6), .ref (h 7), .ref (h 8), .int (iI (T 0 0)), .int (iI (T 0 1)), .int (iI (T 0 2)), .int (iI (T 0 3)), .int (iI (T 0 4))] : List Value).set 10 (.int (iI v))))) = wT G h (up T 0 2 v) := rfl
theorem T_p0_11 (G : GT) (h : Nat → Nat) (T : Tn) (v : Int) : (wT G h T).set 0 ((gT G h T).set 0 (h 0, .inr (6, ([.ref (h 1), .ref (h 2), .ref (h 3), .ref (h 4), .ref (h 5), .ref (h 6), .ref (h 7), .ref (h 8), .int (iI (T 0 0)), .int (iI (T 0 1)), .int (iI (T 0 2)), .int (iI (T 0 3)), .int (iI (T 0 4))] : List Value).set 11 (.int (iI v))))) = wT G h (up T 0 3 v) := rfl
theorem T_p0_12 (G : GT) (h : Nat → Nat) (T : Tn) (v : Int) : (wT G h T).set 0 ((gT G h T).set 0 (h 0, .inr (6, ([.ref (h 1), .ref (h 2), .ref (h 3), .ref (h 4), .ref (h 5), .ref (h 6), .ref (h 7), .ref (h 8), .int (iI (T 0 0)), .int (iI (T 0 1)), .int (iI (T 0 2)), .int (iI (T 0 3)), .int (iI (T 0 4))] : List Value).set 12 (.int (iI v))))) = wT G h (up T 0 4 v) := rfl
theorem T_a0_2 (G : GT) (h : Nat → Nat) (T : Tn) (z v : Int) : (wT G h T).set 0 ((gT G h T).set 2 (h 2, ia G.2.1 6 (zup (T 1) z v))) = wT G h (up T 1 z v) := rfl
theorem T_c0_2 (G : GT) (h : Nat → Nat) (T : Tn) (F : Int → Int) : (wT G h T).set 0 ((gT G h T).set 2 (h 2, ia G.2.1 6 F)) = wT G h (up1 T 1 F) := rfl
theorem T_a0_3 (G : GT) (h : Nat → Nat) (T : Tn) (z v : Int) : (wT G h T).set 0 ((gT G h T).set 3 (h 3, ia G.2.1 6 (zup (T 2) z v))) = wT G h (up T 2 z v) := rfl
theorem T_c0_3 (G : GT) (h : Nat → Nat) (T : Tn) (F : Int → Int) : (wT G h T).set 0 ((gT G h T).set 3 (h 3, ia G.2.1 6 F)) = wT G h (up1 T 2 F) := rfl
theorem T_a0_4 (G : GT) (h : Nat → Nat) (T : Tn) (z v : Int) : (wT G h T).set 0 ((gT G h T).set 4 (h 4, ia G.2.1 8 (zup (T 3) z v))) = wT G h (up T 3 z v) := rfl
theorem T_c0_4 (G : GT) (h : Nat → Nat) (T : Tn) (F : Int → Int) : (wT G h T).set 0 ((gT G h T).set 4 (h 4, ia G.2.1 8 F)) = wT G h (up1 T 3 F) := rfl
theorem T_a0_5 (G : GT) (h : Nat → Nat) (T : Tn) (z v : Int) : (wT G h T).set 0 ((gT G h T).set 5 (h 5, ia G.2.1 8 (zup (T 4) z v))) = wT G h (up T 4 z v) := rfl
theorem T_c0_5 (G : GT) (h : Nat → Nat) (T : Tn) (F : Int → Int) : (wT G h T).set 0 ((gT G h T).set 5 (h 5, ia G.2.1 8 F)) = wT G h (up1 T 4 F) := rfl
theorem T_a0_6 (G : GT) (h : Nat → Nat) (T : Tn) (z v : Int) : (wT G h T).set 0 ((gT G h T).set 6 (h 6, ia G.2.1 8 (zup (T 5) z v))) = wT G h (up T 5 z v) := rfl
theorem T_c0_6 (G : GT) (h : Nat → Nat) (T : Tn) (F : Int → Int) : (wT G h T).set 0 ((gT G h T).set 6 (h 6, ia G.2.1 8 F)) = wT G h (up1 T 5 F) := rfl
theorem T_a0_7 (G : GT) (h : Nat → Nat) (T : Tn) (z v : Int) : (wT G h T).set 0 ((gT G h T).set 7 (h 7, ia G.2.1 8 (zup (T 6) z v))) = wT G h (up T 6 z v) := rfl
theorem T_c0_7 (G : GT) (h : Nat → Nat) (T : Tn) (F : Int → Int) : (wT G h T).set 0 ((gT G h T).set 7 (h 7, ia G.2.1 8 F)) = wT G h (up1 T 6 F) := rfl
theorem T_a0_8 (G : GT) (h : Nat → Nat) (T : Tn) (z v : Int) : (wT G h T).set 0 ((gT G h T).set 8 (h 8, ia G.2.1 8 (zup (T 7) z v))) = wT G h (up T 7 z v) := rfl
theorem T_c0_8 (G : GT) (h : Nat → Nat) (T : Tn) (F : Int → Int) : (wT G h T).set 0 ((gT G h T).set 8 (h 8, ia G.2.1 8 F)) = wT G h (up1 T 7 F) := rfl
theorem U_p0_8 (G : GT) (h1 h2 : Nat → Nat) (T1 T2 : Tn) (v : Int) : (wU2 G h1 h2 T1 T2).set 0 ((gT G h1 T1).set 0 (h1 0, .inr (6, ([.ref (h1 1), .ref (h1 2), .ref (h1 3), .ref (h1 4), .ref (h1 5), .ref (h1 6), .ref (h1 7), .ref (h1 8), .int (iI (T1 0 0)), .int (iI (T1 0 1)), .int (iI (T1 0 2)), .int (iI (T1 0 3)), .int (iI (T1 0 4))] : List Value).set 8 (.int (iI v))))) = wU2 G h1 h2 (up T1 0 0 v) T2 := rfl
theorem U_p0_9 (G : GT) (h1 h2 : Nat → Nat) (T1 T2 : Tn) (v : Int) : (wU2 G h1 h2 T1 T2).set 0 ((gT G h1 T1).set 0 (h1 0, .inr (6, ([.ref (h1 1), .ref (h1 2), .ref (h1 3), .ref (h1 4), .ref (h1 5), .ref (h1 6), .ref (h1 7), .ref (h1 8), .int (iI (T1 0 0)), .int (iI (T1 0 1)), .int (iI (T1 0 2)), .int (iI (T1 0 3)), .int (iI (T1 0 4))] : List Value).set 9 (.int (iI v))))) = wU2 G h1 h2 (up T1 0 1 v) T2 := rfl
theorem U_p0_10 (G : GT) (h1 h2 : Nat → Nat) (T1 T2 : Tn) (v : Int) : (wU2 G h1 h2 T1 T2).set 0 ((gT G h1 T1).set 0 (h1 0, .inr (6, ([.ref (h1 1), .ref (h1 2), .ref (h1 3), .ref (h1 4), .ref (h1 5), .ref (h1 6), .ref (h1 7), .ref (h1 8), .int (iI (T1 0 0)), .int (iI (T1 0 1)), .int (iI (T1 0 2)), .int (iI (T1 0 3)), .int (iI (T1 0 4))] : List Value).set 10 (.int (iI v))))) = wU2 G h1 h2 (up T1 0 2 v) T2 := rfl
theorem U_p0_11 (G : GT) (h1 h2 : Nat → Nat) (T1 T2 : Tn) (v : Int) : (wU2 G h1 h2 T1 T2).set 0 ((gT G h1 T1).set 0 (h1 0, .inr (6, ([.ref (h1 1), .ref (h1 2), .ref (h1 3), .ref (h1 4), .ref (h1 5), .ref (h1 6), .ref (h1 7), .ref (h1 8), .int (iI (T1 0 0)), .int (iI (T1 0 1)), .int (iI (T1 0 2)), .int (iI (T1 0 3)), .int (iI (T1 0 4))] : List Value).set 11 (.int (iI v))))) = wU2 G h1 h2 (up T1 0 3 v) T2 := rfl
theorem U_p0_12 (G : GT) (h1 h2 : Nat → Nat) (T1 T2 : Tn) (v : Int) : (wU2 G h1 h2 T1 T2).set 0 ((gT G h1 T1).set 0 (h1 0, .inr (6, ([.ref (h1 1), .ref (h1 2), .ref (h1 3), .ref (h1 4), .ref (h1 5), .ref (h1 6), .ref (h1 7), .ref (h1 8), .int (iI (T1 0 0)), .int (iI (T1 0 1)), .int (iI (T1 0 2)), .int (iI (T1 0 3)), .int (iI (T1 0 4))] : List Value).set 12 (.int (iI v))))) = wU2 G h1 h2 (up T1 0 4 v) T2 := rfl
theorem U_a0_2 (G : GT) (h1 h2 : Nat → Nat) (T1 T2 : Tn) (z v : Int) : (wU2 G h1 h2 T1 T2).set 0 ((gT G h1 T1).set 2 (h1 2, ia G.2.1 6 (zup (T1 1) z v))) = wU2 G h1 h2 (up T1 1 z v) T2 := rfl
theorem U_c0_2 (G : GT) (h1 h2 : Nat → Nat) (T1 T2 : Tn) (F : Int → Int) : (wU2 G h1 h2 T1 T2).set 0 ((gT G h1 T1).set 2 (h1 2, ia G.2.1 6 F)) = wU2 G h1 h2 (up1 T1 1 F) T2 := rfl
theorem U_a0_3 (G : GT) (h1 h2 : Nat → Nat) (T1 T2 : Tn) (z v : Int) : (wU2 G h1 h2 T1 T2).set 0 ((gT G h1 T1).set 3 (h1 3, ia G.2.1 6 (zup (T1 2) z v))) = wU2 G h1 h2 (up T1 2 z v) T2 := rfl
theorem U_c0_3 (G : GT) (h1 h2 : Nat → Nat) (T1 T2 : Tn) (F : Int → Int) : (wU2 G h1 h2 T1 T2).set 0 ((gT G h1 T1).set 3 (h1 3, ia G.2.1 6 F)) = wU2 G h1 h2 (up1 T1 2 F) T2 := rfl
theorem U_a0_4 (G : GT) (h1 h2 : Nat → Nat) (T1 T2 : Tn) (z v : Int) : (wU2 G h1 h2 T1 T2).set 0 ((gT G h1 T1).set 4 (h1 4, ia G.2.1 8 (zup (T1 3) z v))) = wU2 G h1 h2 (up T1 3 z v) T2 := rfl
theorem U_c0_4 (G : GT) (h1 h2 : Nat → Nat) (T1 T2 : Tn) (F : Int → Int) : (wU2 G h1 h2 T1 T2).set 0 ((gT G h1 T1).set 4 (h1 4, ia G.2.1 8 F)) = wU2 G h1 h2 (up1 T1 3 F) T2 := rfl
theorem U_a0_5 (G : GT) (h1 h2 : Nat → Nat) (T1 T2 : Tn) (z v : Int) : (wU2 G h1 h2 T1 T2).set 0 ((gT G h1 T1).set 5 (h1 5, ia G.2.1 8 (zup (T1 4) z v))) = wU2 G h1 h2 (up T1 4 z v) T2 := rfl
theorem U_c0_5 (G : GT) (h1 h2 : Nat → Nat) (T1 T2 : Tn) (F : Int → Int) : (wU2 G h1 h2 T1 T2).set 0 ((gT G h1 T1).set 5 (h1 5, ia G.2.1 8 F)) = wU2 G h1 h2 (up1 T1 4 F) T2 := rfl
theorem U_a0_6 (G : GT) (h1 h2 : Nat → Nat) (T1 T2 : Tn) (z v : Int) : (wU2 G h1 h2 T1 T2).set 0 ((gT G h1 T1).set 6 (h1 6, ia G.2.1 8 (zup (T1 5) z v))) = wU2 G h1 h2 (up T1 5 z v) T2 := rfl
theorem U_c0_6 (G : GT) (h1 h2 : Nat → Nat) (T1 T2 : Tn) (F : Int → Int) : (wU2 G h1 h2 T1 T2).set 0 ((gT G h1 T1).set 6 (h1 6, ia G.2.1 8 F)) = wU2 G h1 h2 (up1 T1 5 F) T2 := rfl
theorem U_a0_7 (G : GT) (h1 h2 : Nat → Nat) (T1 T2 : Tn) (z v : Int) : (wU2 G h1 h2 T1 T2).set 0 ((gT G h1 T1).set 7 (h1 7, ia G.2.1 8 (zup (T1 6) z v))) = wU2 G h1 h2 (up T1 6 z v) T2 := rfl
theorem U_c0_7 (G : GT) (h1 h2 : Nat → Nat) (T1 T2 : Tn) (F : Int → Int) : (wU2 G h1 h2 T1 T2).set 0 ((gT G h1 T1).set 7 (h1 7, ia G.2.1 8 F)) = wU2 G h1 h2 (up1 T1 6 F) T2 := rfl
theorem U_a0_8 (G : GT) (h1 h2 : Nat → Nat) (T1 T2 : Tn) (z v : Int) : (wU2 G h1 h2 T1 T2).set 0 ((gT G h1 T1).set 8 (h1 8, ia G.2.1 8 (zup (T1 7) z v))) = wU2 G h1 h2 (up T1 7 z v) T2 := rfl
theorem U_c0_8 (G : GT) (h1 h2 : Nat → Nat) (T1 T2 : Tn) (F : Int → Int) : (wU2 G h1 h2 T1 T2).set 0 ((gT G h1 T1).set 8 (h1 8, ia G.2.1 8 F)) = wU2 G h1 h2 (up1 T1 7 F) T2 := rfl
theorem V_p0_8 (G : GT) (h hS : Nat → Nat) (T S : Tn) (v : Int) : (wV G h hS T S).set 0 ((gT G h T).set 0 (h 0, .inr (6, ([.ref (h 1), .ref (h 2), .ref (h 3), .ref (h 4), .ref (h 5), .ref (h 6), .ref (h 7), .ref (h 8), .int (iI (T 0 0)), .int (iI (T 0 1)), .int (iI (T 0 2)), .int (iI (T 0 3)), .int (iI (T 0 4))] : List Value).set 8 (.int (iI v))))) = wV G h hS (up T 0 0 v) S := rfl
theorem V_p0_9 (G : GT) (h hS : Nat → Nat) (T S : Tn) (v : Int) : (wV G h hS T S).set 0 ((gT G h T).set 0 (h 0, .inr (6, ([.ref (h 1), .ref (h 2), .ref (h 3), .ref (h 4), .ref (h 5), .ref (h 6), .ref (h 7), .ref (h 8), .int (iI (T 0 0)), .int (iI (T 0 1)), .int (iI (T 0 2)), .int (iI (T 0 3)), .int (iI (T 0 4))] : List Value).set 9 (.int (iI v))))) = wV G h hS (up T 0 1 v) S := rfl
theorem V_p0_10 (G : GT) (h hS : Nat → Nat) (T S : Tn) (v : Int) : (wV G h hS T S).set 0 ((gT G h T).set 0 (h 0, .inr (6, ([.ref (h 1), .ref (h 2), .ref (h 3), .ref (h 4), .ref (h 5), .ref (h 6), .ref (h 7), .ref (h 8), .int (iI (T 0 0)), .int (iI (T 0 1)), .int (iI (T 0 2)), .int (iI (T 0 3)), .int (iI (T 0 4))] : List Value).set 10 (.int (iI v))))) = wV G h hS (up T 0 2 v) S := rfl
theorem V_p0_11 (G : GT) (h hS : Nat → Nat) (T S : Tn) (v : Int) : (wV G h hS T S).set 0 ((gT G h T).set 0 (h 0, .inr (6, ([.ref (h 1), .ref (h 2), .ref (h 3), .ref (h 4), .ref (h 5), .ref (h 6), .ref (h 7), .ref (h 8), .int (iI (T 0 0)), .int (iI (T 0 1)), .int (iI (T 0 2)), .int (iI (T 0 3)), .int (iI (T 0 4))] : List Value).set 11 (.int (iI v))))) = wV G h hS (up T 0 3 v) S := rfl
theorem V_p0_12 (G : GT) (h hS : Nat → Nat) (T S : Tn) (v : Int) : (wV G h hS T S).set 0 ((gT G h T).set 0 (h 0, .inr (6, ([.ref (h 1), .ref (h 2), .ref (h 3), .ref (h 4), .ref (h 5), .ref (h 6), .ref (h 7), .ref (h 8), .int (iI (T 0 0)), .int (iI (T 0 1)), .int (iI (T 0 2)), .int (iI (T 0 3)), .int (iI (T 0 4))] : List Value).set 12 (.int (iI v))))) = wV G h hS (up T 0 4 v) S := rfl
theorem V_a0_2 (G : GT) (h hS : Nat → Nat) (T S : Tn) (z v : Int) : (wV G h hS T S).set 0 ((gT G h T).set 2 (h 2, ia G.2.1 6 (zup (T 1) z v))) = wV G h hS (up T 1 z v) S := rfl
theorem V_c0_2 (G : GT) (h hS : Nat → Nat) (T S : Tn) (F : Int → Int) : (wV G h hS T S).set 0 ((gT G h T).set 2 (h 2, ia G.2.1 6 F)) = wV G h hS (up1 T 1 F) S := rfl
theorem V_a0_3 (G : GT) (h hS : Nat → Nat) (T S : Tn) (z v : Int) : (wV G h hS T S).set 0 ((gT G h T).set 3 (h 3, ia G.2.1 6 (zup (T 2) z v))) = wV G h hS (up T 2 z v) S := rfl
theorem V_c0_3 (G : GT) (h hS : Nat → Nat) (T S : Tn) (F : Int → Int) : (wV G h hS T S).set 0 ((gT G h T).set 3 (h 3, ia G.2.1 6 F)) = wV G h hS (up1 T 2 F) S := rfl
theorem V_a0_4 (G : GT) (h hS : Nat → Nat) (T S : Tn) (z v : Int) : (wV G h hS T S).set 0 ((gT G h T).set 4 (h 4, ia G.2.1 8 (zup (T 3) z v))) = wV G h hS (up T 3 z v) S := rfl
theorem V_c0_4 (G : GT) (h hS : Nat → Nat) (T S : Tn) (F : Int → Int) : (wV G h hS T S).set 0 ((gT G h T).set 4 (h 4, ia G.2.1 8 F)) = wV G h hS (up1 T 3 F) S := rfl
theorem V_a0_5 (G : GT) (h hS : Nat → Nat) (T S : Tn) (z v : Int) : (wV G h hS T S).set 0 ((gT G h T).set 5 (h 5, ia G.2.1 8 (zup (T 4) z v))) = wV G h hS (up T 4 z v) S := rfl
theorem V_c0_5 (G : GT) (h hS : Nat → Nat) (T S : Tn) (F : Int → Int) : (wV G h hS T S).set 0 ((gT G h T).set 5 (h 5, ia G.2.1 8 F)) = wV G h hS (up1 T 4 F) S := rfl
theorem V_a0_6 (G : GT) (h hS : Nat → Nat) (T S : Tn) (z v : Int) : (wV G h hS T S).set 0 ((gT G h T).set 6 (h 6, ia G.2.1 8 (zup (T 5) z v))) = wV G h hS (up T 5 z v) S := rfl
theorem V_c0_6 (G : GT) (h hS : Nat → Nat) (T S : Tn) (F : Int → Int) : (wV G h hS T S).set 0 ((gT G h T).set 6 (h 6, ia G.2.1 8 F)) = wV G h hS (up1 T 5 F) S := rfl
theorem V_a0_7 (G : GT) (h hS : Nat → Nat) (T S : Tn) (z v : Int) : (wV G h hS T S).set 0 ((gT G h T).set 7 (h 7, ia G.2.1 8 (zup (T 6) z v))) = wV G h hS (up T 6 z v) S := rfl
theorem V_c0_7 (G : GT) (h hS : Nat → Nat) (T S : Tn) (F : Int → Int) : (wV G h hS T S).set 0 ((gT G h T).set 7 (h 7, ia G.2.1 8 F)) = wV G h hS (up1 T 6 F) S := rfl
theorem V_a0_8 (G : GT) (h hS : Nat → Nat) (T S : Tn) (z v : Int) : (wV G h hS T S).set 0 ((gT G h T).set 8 (h 8, ia G.2.1 8 (zup (T 7) z v))) = wV G h hS (up T 7 z v) S := rfl
theorem V_c0_8 (G : GT) (h hS : Nat → Nat) (T S : Tn) (F : Int → Int) : (wV G h hS T S).set 0 ((gT G h T).set 8 (h 8, ia G.2.1 8 F)) = wV G h hS (up1 T 7 F) S := rfl
theorem C_p1_8 (G : GT) (a : Nat → Nat) (X N M P S : Tn) (v : Int) : (wC G a X N M P S).set 1 ((gT G (aN a) N).set 0 ((aN a) 0, .inr (6, ([.ref ((aN a) 1), .ref ((aN a) 2), .ref ((aN a) 3), .ref ((aN a) 4), .ref ((aN a) 5), .ref ((aN a) 6), .ref ((aN a) 7), .ref ((aN a) 8), .int (iI (N 0 0)), .int (iI (N 0 1)), .int (iI (N 0 2)), .int (iI (N 0 3)), .int (iI (N 0 4))] : List Value).set 8 (.int (iI v))))) = wC G a X (up N 0 0 v) M P S := rfl
theorem C_p1_9 (G : GT) (a : Nat → Nat) (X N M P S : Tn) (v : Int) : (wC G a X N M P S).set 1 ((gT G (aN a) N).set 0 ((aN a) 0, .inr (6, ([.ref ((aN a) 1), .ref ((aN a) 2), .ref ((aN a) 3), .ref ((aN a) 4), .ref ((aN a) 5), .ref ((aN a) 6), .ref ((aN a) 7), .ref ((aN a) 8), .int (iI (N 0 0)), .int (iI (N 0 1)), .int (iI (N 0 2)), .int (iI (N 0 3)), .int (iI (N 0 4))] : List Value).set 9 (.int (iI v))))) = wC G a X (up N 0 1 v) M P S := rfl
theorem C_p1_10 (G : GT) (a : Nat → Nat) (X N M P S : Tn) (v : Int) : (wC G a X N M P S).set 1 ((gT G (aN a) N).set 0 ((aN a) 0, .inr (6, ([.ref ((aN a) 1), .ref ((aN a) 2), .ref ((aN a) 3), .ref ((aN a) 4), .ref ((aN a) 5), .ref ((aN a) 6), .ref ((aN a) 7), .ref ((aN a) 8), .int (iI (N 0 0)), .int (iI (N 0 1)), .int (iI (N 0 2)), .int (iI (N 0 3)), .int (iI (N 0 4))] : List Value).set 10 (.int (iI v))))) = wC G a X (up N 0 2 v) M P S := rfl
theorem C_p1_11 (G : GT) (a : Nat → Nat) (X N M P S : Tn) (v : Int) : (wC G a X N M P S).set 1 ((gT G (aN a) N).set 0 ((aN a) 0, .inr (6, ([.ref ((aN a) 1), .ref ((aN a) 2), .ref ((aN a) 3), .ref ((aN a) 4), .ref ((aN a) 5), .ref ((aN a) 6), .ref ((aN a) 7), .ref ((aN a) 8), .int (iI (N 0 0)), .int (iI (N 0 1)), .int (iI (N 0 2)), .int (iI (N 0 3)), .int (iI (N 0 4))] : List Value).set 11 (.int (iI v))))) = wC G a X (up N 0 3 v) M P S := rfl
theorem C_p1_12 (G : GT) (a : Nat → Nat) (X N M P S : Tn) (v : Int) : (wC G a X N M P S).set 1 ((gT G (aN a) N).set 0 ((aN a) 0, .inr (6, ([.ref ((aN a) 1), .ref ((aN a) 2), .ref ((aN a) 3), .ref ((aN a) 4), .ref ((aN a) 5), .ref ((aN a) 6), .ref ((aN a) 7), .ref ((aN a) 8), .int (iI (N 0 0)), .int (iI (N 0 1)), .int (iI (N 0 2)), .int (iI (N 0 3)), .int (iI (N 0 4))] : List Value).set 12 (.int (iI v))))) = wC G a X (up N 0 4 v) M P S := rfl
theorem C_a1_2 (G : GT) (a : Nat → Nat) (X N M P S : Tn) (z v : Int) : (wC G a X N M P S).set 1 ((gT G (aN a) N).set 2 ((aN a) 2, ia G.2.1 6 (zup (N 1) z v))) = wC G a X (up N 1 z v) M P S := rfl
theorem C_c1_2 (G : GT) (a : Nat → Nat) (X N M P S : Tn) (F : Int → Int) : (wC G a X N M P S).set 1 ((gT G (aN a) N).set 2 ((aN a) 2, ia G.2.1 6 F)) = wC G a X (up1 N 1 F) M P S := rfl
theorem C_a1_3 (G : GT) (a : Nat → Nat) (X N M P S : Tn) (z v : Int) : (wC G a X N M P S).set 1 ((gT G (aN a) N).set 3 ((aN a) 3, ia G.2.1 6 (zup (N 2) z v))) = wC G a X (up N 2 z v) M P S := rfl
theorem C_c1_3 (G : GT) (a : Nat → Nat) (X N M P S : Tn) (F : Int → Int) : (wC G a X N M P S).set 1 ((gT G (aN a) N).set 3 ((aN a) 3, ia G.2.1 6 F)) = wC G a X (up1 N 2 F) M P S := rfl
theorem C_a1_4 (G : GT) (a : Nat → Nat) (X N M P S : Tn) (z v : Int) : (wC G a X N M P S).set 1 ((gT G (aN a) N).set 4 ((aN a) 4, ia G.2.1 8 (zup (N 3) z v))) = wC G a X (up N 3 z v) M P S := rfl
theorem C_c1_4 (G : GT) (a : Nat → Nat) (X N M P S : Tn) (F : Int → Int) : (wC G a X N M P S).set 1 ((gT G (aN a) N).set 4 ((aN a) 4, ia G.2.1 8 F)) = wC G a X (up1 N 3 F) M P S := rfl
theorem C_a1_5 (G : GT) (a : Nat → Nat) (X N M P S : Tn) (z v : Int) : (wC G a X N M P S).set 1 ((gT G (aN a) N).set 5 ((aN a) 5, ia G.2.1 8 (zup (N 4) z v))) = wC G a X (up N 4 z v) M P S := rfl
theorem C_c1_5 (G : GT) (a : Nat → Nat) (X N M P S : Tn) (F : Int → Int) : (wC G a X N M P S).set 1 ((gT G (aN a) N).set 5 ((aN a) 5, ia G.2.1 8 F)) = wC G a X (up1 N 4 F) M P S := rfl
theorem C_a1_6 (G : GT) (a : Nat → Nat) (X N M P S : Tn) (z v : Int) : (wC G a X N M P S).set 1 ((gT G (aN a) N).set 6 ((aN a) 6, ia G.2.1 8 (zup (N 5) z v))) = wC G a X (up N 5 z v) M P S := rfl
theorem C_c1_6 (G : GT) (a : Nat → Nat) (X N M P S : Tn) (F : Int → Int) : (wC G a X N M P S).set 1 ((gT G (aN a) N).set 6 ((aN a) 6, ia G.2.1 8 F)) = wC G a X (up1 N 5 F) M P S := rfl
theorem C_a1_7 (G : GT) (a : Nat → Nat) (X N M P S : Tn) (z v : Int) : (wC G a X N M P S).set 1 ((gT G (aN a) N).set 7 ((aN a) 7, ia G.2.1 8 (zup (N 6) z v))) = wC G a X (up N 6 z v) M P S := rfl
theorem C_c1_7 (G : GT) (a : Nat → Nat) (X N M P S : Tn) (F : Int → Int) : (wC G a X N M P S).set 1 ((gT G (aN a) N).set 7 ((aN a) 7, ia G.2.1 8 F)) = wC G a X (up1 N 6 F) M P S := rfl
theorem C_a1_8 (G : GT) (a : Nat → Nat) (X N M P S : Tn) (z v : Int) : (wC G a X N M P S).set 1 ((gT G (aN a) N).set 8 ((aN a) 8, ia G.2.1 8 (zup (N 7) z v))) = wC G a X (up N 7 z v) M P S := rfl
theorem C_c1_8 (G : GT) (a : Nat → Nat) (X N M P S : Tn) (F : Int → Int) : (wC G a X N M P S).set 1 ((gT G (aN a) N).set 8 ((aN a) 8, ia G.2.1 8 F)) = wC G a X (up1 N 7 F) M P S := rfl
theorem C_p2_8 (G : GT) (a : Nat → Nat) (X N M P S : Tn) (v : Int) : (wC G a X N M P S).set 2 ((gT G (aM a) M).set 0 ((aM a) 0, .inr (6, ([.ref ((aM a) 1), .ref ((aM a) 2), .ref ((aM a) 3), .ref ((aM a) 4), .ref ((aM a) 5), .ref ((aM a) 6), .ref ((aM a) 7), .ref ((aM a) 8), .int (iI (M 0 0)), .int (iI (M 0 1)), .int (iI (M 0 2)), .int (iI (M 0 3)), .int (iI (M 0 4))] : List Value).set 8 (.int (iI v))))) = wC G a X N (up M 0 0 v) P S := rfl
theorem C_p2_9 (G : GT) (a : Nat → Nat) (X N M P S : Tn) (v : Int) : (wC G a X N M P S).set 2 ((gT G (aM a) M).set 0 ((aM a) 0, .inr (6, ([.ref ((aM a) 1), .ref ((aM a) 2), .ref ((aM a) 3), .ref ((aM a) 4), .ref ((aM a) 5), .ref ((aM a) 6), .ref ((aM a) 7), .ref ((aM a) 8), .int (iI (M 0 0)), .int (iI (M 0 1)), .int (iI (M 0 2)), .int (iI (M 0 3)), .int (iI (M 0 4))] : List Value).set 9 (.int (iI v))))) = wC G a X N (up M 0 1 v) P S := rfl
theorem C_p2_10 (G : GT) (a : Nat → Nat) (X N M P S : Tn) (v : Int) : (wC G a X N M P S).set 2 ((gT G (aM a) M).set 0 ((aM a) 0, .inr (6, ([.ref ((aM a) 1), .ref ((aM a) 2), .ref ((aM a) 3), .ref ((aM a) 4), .ref ((aM a) 5), .ref ((aM a) 6), .ref ((aM a) 7), .ref ((aM a) 8), .int (iI (M 0 0)), .int (iI (M 0 1)), .int (iI (M 0 2)), .int (iI (M 0 3)), .int (iI (M 0 4))] : List Value).set 10 (.int (iI v))))) = wC G a X N (up M 0 2 v) P S := rfl
theorem C_p2_11 (G : GT) (a : Nat → Nat) (X N M P S : Tn) (v : Int) : (wC G a X N M P S).set 2 ((gT G (aM a) M).set 0 ((aM a) 0, .inr (6, ([.ref ((aM a) 1), .ref ((aM a) 2), .ref ((aM a) 3), .ref ((aM a) 4), .ref ((aM a) 5), .ref ((aM a) 6), .ref ((aM a) 7), .ref ((aM a) 8), .int (iI (M 0 0)), .int (iI (M 0 1)), .int (iI (M 0 2)), .int (iI (M 0 3)), .int (iI (M 0 4))] : List Value).set 11 (.int (iI v))))) = wC G a X N (up M 0 3 v) P S := rfl
theorem C_p2_12 (G : GT) (a : Nat → Nat) (X N M P S : Tn) (v : Int) : (wC G a X N M P S).set 2 ((gT G (aM a) M).set 0 ((aM a) 0, .inr (6, ([.ref ((aM a) 1), .ref ((aM a) 2), .ref ((aM a) 3), .ref ((aM a) 4), .ref ((aM a) 5), .ref ((aM a) 6), .ref ((aM a) 7), .ref ((aM a) 8), .int (iI (M 0 0)), .int (iI (M 0 1)), .int (iI (M 0 2)), .int (iI (M 0 3)), .int (iI (M 0 4))] : List Value).set 12 (.int (iI v))))) = wC G a X N (up M 0 4 v) P S := rfl
theorem C_a2_2 (G : GT) (a : Nat → Nat) (X N M P S : Tn) (z v : Int) : (wC G a X N M P S).set 2 ((gT G (aM a) M).set 2 ((aM a) 2, ia G.2.1 6 (zup (M 1) z v))) = wC G a X N (up M 1 z v) P S := rfl
theorem C_c2_2 (G : GT) (a : Nat → Nat) (X N M P S : Tn) (F : Int → Int) : (wC G a X N M P S).set 2 ((gT G (aM a) M).set 2 ((aM a) 2, ia G.2.1 6 F)) = wC G a X N (up1 M 1 F) P S := rfl
theorem C_a2_3 (G : GT) (a : Nat → Nat) (X N M P S : Tn) (z v : Int) : (wC G a X N M P S).set 2 ((gT G (aM a) M).set 3 ((aM a) 3, ia G.2.1 6 (zup (M 2) z v))) = wC G a X N (up M 2 z v) P S := rfl
theorem C_c2_3 (G : GT) (a : Nat → Nat) (X N M P S : Tn) (F : Int → Int) : (wC G a X N M P S).set 2 ((gT G (aM a) M).set 3 ((aM a) 3, ia G.2.1 6 F)) = wC G a X N (up1 M 2 F) P S := rfl
theorem C_a2_4 (G : GT) (a : Nat → Nat) (X N M P S : Tn) (z v : Int) : (wC G a X N M P S).set 2 ((gT G (aM a) M).set 4 ((aM a) 4, ia G.2.1 8 (zup (M 3) z v))) = wC G a X N (up M 3 z v) P S := rfl
theorem C_c2_4 (G : GT) (a : Nat → Nat) (X N M P S : Tn) (F : Int → Int) : (wC G a X N M P S).set 2 ((gT G (aM a) M).set 4 ((aM a) 4, ia G.2.1 8 F)) = wC G a X N (up1 M 3 F) P S := rfl
theorem C_a2_5 (G : GT) (a : Nat → Nat) (X N M P S : Tn) (z v : Int) : (wC G a X N M P S).set 2 ((gT G (aM a) M).set 5 ((aM a) 5, ia G.2.1 8 (zup (M 4) z v))) = wC G a X N (up M 4 z v) P S := rfl
theorem C_c2_5 (G : GT) (a : Nat → Nat) (X N M P S : Tn) (F : Int → Int) : (wC G a X N M P S).set 2 ((gT G (aM a) M).set 5 ((aM a) 5, ia G.2.1 8 F)) = wC G a X N (up1 M 4 F) P S := rfl
theorem C_a2_6 (G : GT) (a : Nat → Nat) (X N M P S : Tn) (z v : Int) : (wC G a X N M P S).set 2 ((gT G (aM a) M).set 6 ((aM a) 6, ia G.2.1 8 (zup (M 5) z v))) = wC G a X N (up M 5 z v) P S := rfl
theorem C_c2_6 (G : GT) (a : Nat → Nat) (X N M P S : Tn) (F : Int → Int) : (wC G a X N M P S).set 2 ((gT G (aM a) M).set 6 ((aM a) 6, ia G.2.1 8 F)) = wC G a X N (up1 M 5 F) P S := rfl
theorem C_a2_7 (G : GT) (a : Nat → Nat) (X N M P S : Tn) (z v : Int) : (wC G a X N M P S).set 2 ((gT G (aM a) M).set 7 ((aM a) 7, ia G.2.1 8 (zup (M 6) z v))) = wC G a X N (up M 6 z v) P S := rfl
theorem C_c2_7 (G : GT) (a : Nat → Nat) (X N M P S : Tn) (F : Int → Int) : (wC G a X N M P S).set 2 ((gT G (aM a) M).set 7 ((aM a) 7, ia G.2.1 8 F)) = wC G a X N (up1 M 6 F) P S := rfl
theorem C_a2_8 (G : GT) (a : Nat → Nat) (X N M P S : Tn) (z v : Int) : (wC G a X N M P S).set 2 ((gT G (aM a) M).set 8 ((aM a) 8, ia G.2.1 8 (zup (M 7) z v))) = wC G a X N (up M 7 z v) P S := rfl
theorem C_c2_8 (G : GT) (a : Nat → Nat) (X N M P S : Tn) (F : Int → Int) : (wC G a X N M P S).set 2 ((gT G (aM a) M).set 8 ((aM a) 8, ia G.2.1 8 F)) = wC G a X N (up1 M 7 F) P S := rfl
theorem C_p3_8 (G : GT) (a : Nat → Nat) (X N M P S : Tn) (v : Int) : (wC G a X N M P S).set 3 ((gT G (aP a) P).set 0 ((aP a) 0, .inr (6, ([.ref ((aP a) 1), .ref ((aP a) 2), .ref ((aP a) 3), .ref ((aP a) 4), .ref ((aP a) 5), .ref ((aP a) 6), .ref ((aP a) 7), .ref ((aP a) 8), .int (iI (P 0 0)), .int (iI (P 0 1)), .int (iI (P 0 2)), .int (iI (P 0 3)), .int (iI (P 0 4))] : List Value).set 8 (.int (iI v))))) = wC G a X N M (up P 0 0 v) S := rfl
theorem C_p3_9 (G : GT) (a : Nat → Nat) (X N M P S : Tn) (v : Int) : (wC G a X N M P S).set 3 ((gT G (aP a) P).set 0 ((aP a) 0, .inr (6, ([.ref ((aP a) 1), .ref ((aP a) 2), .ref ((aP a) 3), .ref ((aP a) 4), .ref ((aP a) 5), .ref ((aP a) 6), .ref ((aP a) 7), .ref ((aP a) 8), .int (iI (P 0 0)), .int (iI (P 0 1)), .int (iI (P 0 2)), .int (iI (P 0 3)), .int (iI (P 0 4))] : List Value).set 9 (.int (iI v))))) = wC G a X N M (up P 0 1 v) S := rfl
theorem C_p3_10 (G : GT) (a : Nat → Nat) (X N M P S : Tn) (v : Int) : (wC G a X N M P S).set 3 ((gT G (aP a) P).set 0 ((aP a) 0, .inr (6, ([.ref ((aP a) 1), .ref ((aP a) 2), .ref ((aP a) 3), .ref ((aP a) 4), .ref ((aP a) 5), .ref ((aP a) 6), .ref ((aP a) 7), .ref ((aP a) 8), .int (iI (P 0 0)), .int (iI (P 0 1)), .int (iI (P 0 2)), .int (iI (P 0 3)), .int (iI (P 0 4))] : List Value).set 10 (.int (iI v))))) = wC G a X N M (up P 0 2 v) S := rfl
theorem C_p3_11 (G : GT) (a : Nat → Nat) (X N M P S : Tn) (v : Int) : (wC G a X N M P S).set 3 ((gT G (aP a) P).set 0 ((aP a) 0, .inr (6, ([.ref ((aP a) 1), .ref ((aP a) 2), .ref ((aP a) 3), .ref ((aP a) 4), .ref ((aP a) 5), .ref ((aP a) 6), .ref ((aP a) 7), .ref ((aP a) 8), .int (iI (P 0 0)), .int (iI (P 0 1)), .int (iI (P 0 2)), .int (iI (P 0 3)), .int (iI (P 0 4))] : List Value).set 11 (.int (iI v))))) = wC G a X N M (up P 0 3 v) S := rfl
theorem C_p3_12 (G : GT) (a : Nat → Nat) (X N M P S : Tn) (v : Int) : (wC G a X N M P S).set 3 ((gT G (aP a) P).set 0 ((aP a) 0, .inr (6, ([.ref ((aP a) 1), .ref ((aP a) 2), .ref ((aP a) 3), .ref ((aP a) 4), .ref ((aP a) 5), .ref ((aP a) 6), .ref ((aP a) 7), .ref ((aP a) 8), .int (iI (P 0 0)), .int (iI (P 0 1)), .int (iI (P 0 2)), .int (iI (P 0 3)), .int (iI (P 0 4))] : List Value).set 12 (.int (iI v))))) = wC G a X N M (up P 0 4 v) S := rfl
theorem C_a3_2 (G : GT) (a : Nat → Nat) (X N M P S : Tn) (z v : Int) : (wC G a X N M P S).set 3 ((gT G (aP a) P).set 2 ((aP a) 2, ia G.2.1 6 (zup (P 1) z v))) = wC G a X N M (up P 1 z v) S := rfl
theorem C_c3_2 (G : GT) (a : Nat → Nat) (X N M P S : Tn) (F : Int → Int) : (wC G a X N M P S).set 3 ((gT G (aP a) P).set 2 ((aP a) 2, ia G.2.1 6 F)) = wC G a X N M (up1 P 1 F) S := rfl
theorem C_a3_3 (G : GT) (a : Nat → Nat) (X N M P S : Tn) (z v : Int) : (wC G a X N M P S).set 3 ((gT G (aP a) P).set 3 ((aP a) 3, ia G.2.1 6 (zup (P 2) z v))) = wC G a X N M (up P 2 z v) S := rfl
theorem C_c3_3 (G : GT) (a : Nat → Nat) (X N M P S : Tn) (F : Int → Int) : (wC G a X N M P S).set 3 ((gT G (aP a) P).set 3 ((aP a) 3, ia G.2.1 6 F)) = wC G a X N M (up1 P 2 F) S := rfl
theorem C_a3_4 (G : GT) (a : Nat → Nat) (X N M P S : Tn) (z v : Int) : (wC G a X N M P S).set 3 ((gT G (aP a) P).set 4 ((aP a) 4, ia G.2.1 8 (zup (P 3) z v))) = wC G a X N M (up P 3 z v) S := rfl
theorem C_c3_4 (G : GT) (a : Nat → Nat) (X N M P S : Tn) (F : Int → Int) : (wC G a X N M P S).set 3 ((gT G (aP a) P).set 4 ((aP a) 4, ia G.2.1 8 F)) = wC G a X N M (up1 P 3 F) S := rfl
theorem C_a3_5 (G : GT) (a : Nat → Nat) (X N M P S : Tn) (z v : Int) : (wC G a X N M P S).set 3 ((gT G (aP a) P).set 5 ((aP a) 5, ia G.2.1 8 (zup (P 4) z v))) = wC G a X N M (up P 4 z v) S := rfl
theorem C_c3_5 (G : GT) (a : Nat → Nat) (X N M P S : Tn) (F : Int → Int) : (wC G a X N M P S).set 3 ((gT G (aP a) P).set 5 ((aP a) 5, ia G.2.1 8 F)) = wC G a X N M (up1 P 4 F) S := rfl
theorem C_a3_6 (G : GT) (a : Nat → Nat) (X N M P S : Tn) (z v : Int) : (wC G a X N M P S).set 3 ((gT G (aP a) P).set 6 ((aP a) 6, ia G.2.1 8 (zup (P 5) z v))) = wC G a X N M (up P 5 z v) S := rfl
theorem C_c3_6 (G : GT) (a : Nat → Nat) (X N M P S : Tn) (F : Int → Int) : (wC G a X N M P S).set 3 ((gT G (aP a) P).set 6 ((aP a) 6, ia G.2.1 8 F)) = wC G a X N M (up1 P 5 F) S := rfl
theorem C_a3_7 (G : GT) (a : Nat → Nat) (X N M P S : Tn) (z v : Int) : (wC G a X N M P S).set 3 ((gT G (aP a) P).set 7 ((aP a) 7, ia G.2.1 8 (zup (P 6) z v))) = wC G a X N M (up P 6 z v) S := rfl
theorem C_c3_7 (G : GT) (a : Nat → Nat) (X N M P S : Tn) (F : Int → Int) : (wC G a X N M P S).set 3 ((gT G (aP a) P).set 7 ((aP a) 7, ia G.2.1 8 F)) = wC G a X N M (up1 P 6 F) S := rfl
theorem C_a3_8 (G : GT) (a : Nat → Nat) (X N M P S : Tn) (z v : Int) : (wC G a X N M P S).set 3 ((gT G (aP a) P).set 8 ((aP a) 8, ia G.2.1 8 (zup (P 7) z v))) = wC G a X N M (up P 7 z v) S := rfl
theorem C_c3_8 (G : GT) (a : Nat → Nat) (X N M P S : Tn) (F : Int → Int) : (wC G a X N M P S).set 3 ((gT G (aP a) P).set 8 ((aP a) 8, ia G.2.1 8 F)) = wC G a X N M (up1 P 7 F) S := rfl
theorem S_p0_1 (G : GT) (h : Nat → Nat) (S : Tn) (v : Int) : (wS G h S).set 0 ((gS G h S).set 0 (h 0, .inr (5, ([.ref (h 1), .int (iI (S 0 0))] : List Value).set 1 (.int (iI v))))) = wS G h (up S 0 0 v) := rfl
theorem S_a0_1 (G : GT) (h : Nat → Nat) (S : Tn) (z v : Int) : (wS G h S).set 0 ((gS G h S).set 1 (h 1, ia G.2.1 64 (zup (S 1) z v))) = wS G h (up S 1 z v) := rfl
theorem V_p1_1 (G : GT) (h hS : Nat → Nat) (T S : Tn) (v : Int) : (wV G h hS T S).set 1 ((gS G hS S).set 0 (hS 0, .inr (5, ([.ref (hS 1), .int (iI (S 0 0))] : List Value).set 1 (.int (iI v))))) = wV G h hS T (up S 0 0 v) := rfl
theorem V_a1_1 (G : GT) (h hS : Nat → Nat) (T S : Tn) (z v : Int) : (wV G h hS T S).set 1 ((gS G hS S).set 1 (hS 1, ia G.2.1 64 (zup (S 1) z v))) = wV G h hS T (up S 1 z v) := rfl
theorem C_p4_1 (G : GT) (a : Nat → Nat) (X N M P S : Tn) (v : Int) : (wC G a X N M P S).set 4 ((gS G (aS a) S).set 0 ((aS a) 0, .inr (5, ([.ref ((aS a) 1), .int (iI (S 0 0))] : List Value).set 1 (.int (iI v))))) = wC G a X N M P (up S 0 0 v) := rfl
theorem C_a4_1 (G : GT) (a : Nat → Nat) (X N M P S : Tn) (z v : Int) : (wC G a X N M P S).set 4 ((gS G (aS a) S).set 1 ((aS a) 1, ia G.2.1 64 (zup (S 1) z v))) = wC G a X N M P (up S 1 z v) := rfl
theorem C_p0_8 (G : GT) (a : Nat → Nat) (X N M P S : Tn) (v : Int) : (wC G a X N M P S).set 0 ((gX G a X).set 0 (a 0, .inr (8, ([.ref (a 5), .ref (a 20), .ref (a 35), .ref (a 50), .ref (a 1), .ref (a 2), .ref (a 3), .ref (a 4), .int (iI (X 0 0)), .int (iI (X 0 1))] : List Value).set 8 (.int (iI v))))) = wC G a (up X 0 0 v) N M P S := rfl
theorem C_p0_9 (G : GT) (a : Nat → Nat) (X N M P S : Tn) (v : Int) : (wC G a X N M P S).set 0 ((gX G a X).set 0 (a 0, .inr (8, ([.ref (a 5), .ref (a 20), .ref (a 35), .ref (a 50), .ref (a 1), .ref (a 2), .ref (a 3), .ref (a 4), .int (iI (X 0 0)), .int (iI (X 0 1))] : List Value).set 9 (.int (iI v))))) = wC G a (up X 0 1 v) N M P S := rfl
theorem C_a0_1 (G : GT) (a : Nat → Nat) (X N M P S : Tn) (z v : Int) : (wC G a X N M P S).set 0 ((gX G a X).set 1 (a 1, ia G.2.1 8 (zup (X 1) z v))) = wC G a (up X 1 z v) N M P S := rfl
theorem C_a0_2 (G : GT) (a : Nat → Nat) (X N M P S : Tn) (z v : Int) : (wC G a X N M P S).set 0 ((gX G a X).set 2 (a 2, ia G.2.1 6 (zup (X 2) z v))) = wC G a (up X 2 z v) N M P S := rfl
theorem C_a0_3 (G : GT) (a : Nat → Nat) (X N M P S : Tn) (z v : Int) : (wC G a X N M P S).set 0 ((gX G a X).set 3 (a 3, ia G.2.1 8 (zup (X 3) z v))) = wC G a (up X 3 z v) N M P S := rfl
theorem C_a0_4 (G : GT) (a : Nat → Nat) (X N M P S : Tn) (z v : Int) : (wC G a X N M P S).set 0 ((gX G a X).set 4 (a 4, ia G.2.1 7 (zup (X 4) z v))) = wC G a (up X 4 z v) N M P S := rfl
theorem R_p0_5 (G : GT) (b : Nat → Nat) (R T : Tn) (v : Int) : (wR G b R T).set 0 (([(b 0, .inr (9, [.ref (b 1), .ref (b 2), .ref (b 3), .ref (b 4), .ref (b 5), .int (iI (R 0 0)), .ref (b 6), .ref (b 7), .int (iI (R 0 1)), .int (iI (R 0 2)), .ref (b 8), .int (iI (R 0 3))]))] : va_W).set 0 (b 0, .inr (9, ([.ref (b 1), .ref (b 2), .ref (b 3), .ref (b 4), .ref (b 5), .int (iI (R 0 0)), .ref (b 6), .ref (b 7), .int (iI (R 0 1)), .int (iI (R 0 2)), .ref (b 8), .int (iI (R 0 3))] : List Value).set 5 (.int (iI v))))) = wR G b (up R 0 0 v) T := rfl
theorem R_p0_8 (G : GT) (b : Nat → Nat) (R T : Tn) (v : Int) : (wR G b R T).set 0 (([(b 0, .inr (9, [.ref (b 1), .ref (b 2), .ref (b 3), .ref (b 4), .ref (b 5), .int (iI (R 0 0)), .ref (b 6), .ref (b 7), .int (iI (R 0 1)), .int (iI (R 0 2)), .ref (b 8), .int (iI (R 0 3))]))] : va_W).set 0 (b 0, .inr (9, ([.ref (b 1), .ref (b 2), .ref (b 3), .ref (b 4), .ref (b 5), .int (iI (R 0 0)), .ref (b 6), .ref (b 7), .int (iI (R 0 1)), .int (iI (R 0 2)), .ref (b 8), .int (iI (R 0 3))] : List Value).set 8 (.int (iI v))))) = wR G b (up R 0 1 v) T := rfl
theorem R_p0_9 (G : GT) (b : Nat → Nat) (R T : Tn) (v : Int) : (wR G b R T).set 0 (([(b 0, .inr (9, [.ref (b 1), .ref (b 2), .ref (b 3), .ref (b 4), .ref (b 5), .int (iI (R 0 0)), .ref (b 6), .ref (b 7), .int (iI (R 0 1)), .int (iI (R 0 2)), .ref (b 8), .int (iI (R 0 3))]))] : va_W).set 0 (b 0, .inr (9, ([.ref (b 1), .ref (b 2), .ref (b 3), .ref (b 4), .ref (b 5), .int (iI (R 0 0)), .ref (b 6), .ref (b 7), .int (iI (R 0 1)), .int (iI (R 0 2)), .ref (b 8), .int (iI (R 0 3))] : List Value).set 9 (.int (iI v))))) = wR G b (up R 0 2 v) T := rfl
theorem R_p0_11 (G : GT) (b : Nat → Nat) (R T : Tn) (v : Int) : (wR G b R T).set 0 (([(b 0, .inr (9, [.ref (b 1), .ref (b 2), .ref (b 3), .ref (b 4), .ref (b 5), .int (iI (R 0 0)), .ref (b 6), .ref (b 7), .int (iI (R 0 1)), .int (iI (R 0 2)), .ref (b 8), .int (iI (R 0 3))]))] : va_W).set 0 (b 0, .inr (9, ([.ref (b 1), .ref (b 2), .ref (b 3), .ref (b 4), .ref (b 5), .int (iI (R 0 0)), .ref (b 6), .ref (b 7), .int (iI (R 0 1)), .int (iI (R 0 2)), .ref (b 8), .int (iI (R 0 3))] : List Value).set 11 (.int (iI v))))) = wR G b (up R 0 3 v) T := rfl
theorem R_a1_0 (G : GT) (b : Nat → Nat) (R T : Tn) (z v : Int) : (wR G b R T).set 1 (([(b 1, ia G.2.1 7 (R 1))] : va_W).set 0 (b 1, ia G.2.1 7 (zup (R 1) z v))) = wR G b (up R 1 z v) T := rfl
theorem R_a3_0 (G : GT) (b : Nat → Nat) (R T : Tn) (z v : Int) : (wR G b R T).set 3 (([(b 3, ia G.2.1 57 (R 3))] : va_W).set 0 (b 3, ia G.2.1 57 (zup (R 3) z v))) = wR G b (up R 3 z v) T := rfl
theorem R_a4_0 (G : GT) (b : Nat → Nat) (R T : Tn) (z v : Int) : (wR G b R T).set 4 (([(b 4, ia G.2.1 57 (R 4))] : va_W).set 0 (b 4, ia G.2.1 57 (zup (R 4) z v))) = wR G b (up R 4 z v) T := rfl
theorem R_a5_0 (G : GT) (b : Nat → Nat) (R T : Tn) (z v : Int) : (wR G b R T).set 5 (([(b 5, ia G.2.1 57 (R 5))] : va_W).set 0 (b 5, ia G.2.1 57 (zup (R 5) z v))) = wR G b (up R 5 z v) T := rfl
theorem R_a6_0 (G : GT) (b : Nat → Nat) (R T : Tn) (z v : Int) : (wR G b R T).set 6 (([(b 6, ia G.2.1 64 (R 6))] : va_W).set 0 (b 6, ia G.2.1 64 (zup (R 6) z v))) = wR G b (up R 6 z v) T := rfl
theorem R_a7_0 (G : GT) (b : Nat → Nat) (R T : Tn) (z v : Int) : (wR G b R T).set 7 (([(b 7, ia G.2.1 3 (R 7))] : va_W).set 0 (b 7, ia G.2.1 3 (zup (R 7) z v))) = wR G b (up R 7 z v) T := rfl
theorem R_a8_0 (G : GT) (b : Nat → Nat) (R T : Tn) (z v : Int) : (wR G b R T).set 8 (([(b 8, ia G.2.1 8 (R 8))] : va_W).set 0 (b 8, ia G.2.1 8 (zup (R 8) z v))) = wR G b (up R 8 z v) T := rfl
theorem L2_a1_0 (G : GT) (p q : Nat) (F1 F2 : Int → Int) (z v : Int) : (wL G p q F1 F2).set 1 (([(q, ia G.2.1 57 F2)] : va_W).set 0 (q, ia G.2.1 57 (zup F2 z v))) = wL G p q F1 (zup F2 z v) := rfl
theorem flat_0 (T : Tn) {z : Int} (h : z < 5) : flat T z = T 0 z := if_pos h
theorem flat_x (T : Tn) {l : Int} (h : 0 ≤ l ∧ l < 6) : flat T (5 + 2 * l) = T 1 l := by
  unfold flat
  rw [if_neg (by omega), if_pos (by omega)]
  have h1 : (5 + 2 * l - 5) % 2 = 0 := by omega
  have h2 : (5 + 2 * l - 5) / 2 = l := by omega
  rw [h1, h2]
  rfl
theorem flat_y (T : Tn) {l : Int} (h : 0 ≤ l ∧ l < 6) : flat T (5 + 2 * l + 1) = T 2 l := by
  unfold flat
  rw [if_neg (by omega), if_pos (by omega)]
  have h1 : (5 + 2 * l + 1 - 5) % 2 = 1 := by omega
  have h2 : (5 + 2 * l + 1 - 5) / 2 = l := by omega
  rw [h1, h2]
  rfl
theorem flat_d (T : Tn) {d k : Int} (h : 0 ≤ d) (hk : 0 ≤ k ∧ k < 5) : flat T (17 + 5 * d + k) = T (3 + k.toNat) d := by
  unfold flat
  rw [if_neg (by omega), if_neg (by omega)]
  have h1 : (17 + 5 * d + k - 17) % 5 = k := by omega
  have h2 : (17 + 5 * d + k - 17) / 5 = d := by omega
  rw [h1, h2]
theorem flat_u0 (T : Tn) {z v : Int} (h : 0 ≤ z ∧ z < 5) : zup (flat T) z v = flat (up T 0 z v) := by
  funext j
  unfold zup
  by_cases hj : j = z
  · rw [if_pos hj, hj, flat_0 _ h.2]
    unfold up zup
    rw [if_pos rfl, if_pos rfl]
  · rw [if_neg hj]
    unfold flat up zup
    by_cases h1 : j < 5
    · simp [h1, hj]
    · by_cases h2 : j < 17
      · simp [h1, h2]
      · simp [h1, h2]
theorem flat_ud (T : Tn) {d k v : Int} (h : 0 ≤ d) (hk : 0 ≤ k ∧ k < 5) : zup (flat T) (17 + 5 * d + k) v = flat (up T (3 + k.toNat) d v) := by
  funext j
  unfold zup
  by_cases hj : j = 17 + 5 * d + k
  · rw [if_pos hj, hj, flat_d _ h hk]
    unfold up zup
    rw [if_pos rfl, if_pos rfl]
  · rw [if_neg hj]
    unfold flat up zup
    by_cases h1 : j < 5
    · rw [if_pos h1, if_pos h1, if_neg (by omega)]
    · rw [if_neg h1, if_neg h1]
      by_cases h2 : j < 17
      · rw [if_pos h2, if_pos h2, if_neg (by omega)]
      · rw [if_neg h2, if_neg h2]
        by_cases h3 : 3 + ((j - 17) % 5).toNat = 3 + k.toNat
        · rw [if_pos h3, if_neg (by omega), h3]
        · rw [if_neg h3]
theorem flat_ux (T : Tn) {l k v : Int} (h : 0 ≤ l ∧ l < 6) (hk : 0 ≤ k ∧ k < 2) : zup (flat T) (5 + 2 * l + k) v = flat (up T (1 + k.toNat) l v) := by
  funext j
  unfold zup
  by_cases hj : j = 5 + 2 * l + k
  · rw [if_pos hj, hj]
    unfold flat up zup
    have h1 : (5 + 2 * l + k - 5) % 2 = k := by omega
    have h2 : (5 + 2 * l + k - 5) / 2 = l := by omega
    rw [if_neg (by omega), if_pos (by omega), h1, h2, if_pos rfl, if_pos rfl]
  · rw [if_neg hj]
    unfold flat up zup
    by_cases h1 : j < 5
    · rw [if_pos h1, if_pos h1, if_neg (by omega)]
    · rw [if_neg h1, if_neg h1]
      by_cases h2 : j < 17
      · rw [if_pos h2, if_pos h2]
        by_cases h3 : 1 + ((j - 5) % 2).toNat = 1 + k.toNat
        · rw [if_pos h3, if_neg (by omega), h3]
        · rw [if_neg h3]
      · rw [if_neg h2, if_neg h2, if_neg (by omega)]
/-- the reference's town is written -/
theorem R_s0 (G : GT) (b : Nat → Nat) (R T : Tn) {z v : Int} (h : 0 ≤ z ∧ z < 5) : (wR G b R T).set 2 (([(b 2, ia G.2.1 57 (flat T))] : va_W).set 0 (b 2, ia G.2.1 57 (zup (flat T) z v))) = wR G b R (up T 0 z v) := by
  rw [flat_u0 T h]
  rfl
theorem R_sd (G : GT) (b : Nat → Nat) (R T : Tn) {d k v : Int} (h : 0 ≤ d) (hk : 0 ≤ k ∧ k < 5) : (wR G b R T).set 2 (([(b 2, ia G.2.1 57 (flat T))] : va_W).set 0 (b 2, ia G.2.1 57 (zup (flat T) (17 + 5 * d + k) v))) = wR G b R (up T (3 + k.toNat) d v) := by
  rw [flat_ud T h hk]
  rfl
theorem R_s (G : GT) (b : Nat → Nat) (R T T' : Tn) {z v : Int} (h : zup (flat T) z v = flat T') : (wR G b R T).set 2 (([(b 2, ia G.2.1 57 (flat T))] : va_W).set 0 (b 2, ia G.2.1 57 (zup (flat T) z v))) = wR G b R T' := by
  rw [h]
  rfl
theorem T_uall (G : GT) (h : Nat → Nat) (T T' : Tn) : ups (wT G h T) [0] (wT G h T') = wT G h T' := rfl
theorem U_uall (G : GT) (h1 h2 : Nat → Nat) (T1 T2 T1' T2' : Tn) : ups (wU2 G h1 h2 T1 T2) [0, 1] (wU2 G h1 h2 T1' T2') = wU2 G h1 h2 T1' T2' := rfl
theorem U_u0 (G : GT) (h1 h2 : Nat → Nat) (T1 T2 T1' : Tn) : ups (wU2 G h1 h2 T1 T2) [0] (wT G h1 T1') = wU2 G h1 h2 T1' T2 := rfl
theorem S_uall (G : GT) (h : Nat → Nat) (S S' : Tn) : ups (wS G h S) [0] (wS G h S') = wS G h S' := rfl
theorem V_uall (G : GT) (h hS : Nat → Nat) (T S T' S' : Tn) : ups (wV G h hS T S) [0, 1] (wV G h hS T' S') = wV G h hS T' S' := rfl
theorem V_u0 (G : GT) (h hS : Nat → Nat) (T S T' : Tn) : ups (wV G h hS T S) [0] (wT G h T') = wV G h hS T' S := rfl
theorem V_u1 (G : GT) (h hS : Nat → Nat) (T S S' : Tn) : ups (wV G h hS T S) [1] (wS G hS S') = wV G h hS T S' := rfl
theorem C_uall (G : GT) (a : Nat → Nat) (X N M P S X' N' M' P' S' : Tn) : ups (wC G a X N M P S) [0, 1, 2, 3, 4] (wC G a X' N' M' P' S') = wC G a X' N' M' P' S' := rfl
theorem C_u1 (G : GT) (a : Nat → Nat) (X N M P S N' : Tn) : ups (wC G a X N M P S) [1] (wT G (aN a) N') = wC G a X N' M P S := rfl
theorem C_u2 (G : GT) (a : Nat → Nat) (X N M P S M' : Tn) : ups (wC G a X N M P S) [2] (wT G (aM a) M') = wC G a X N M' P S := rfl
theorem C_u3 (G : GT) (a : Nat → Nat) (X N M P S P' : Tn) : ups (wC G a X N M P S) [3] (wT G (aP a) P') = wC G a X N M P' S := rfl
theorem C_u4 (G : GT) (a : Nat → Nat) (X N M P S S' : Tn) : ups (wC G a X N M P S) [4] (wS G (aS a) S') = wC G a X N M P S' := rfl
theorem C_u1_4 (G : GT) (a : Nat → Nat) (X N M P S N' S' : Tn) : ups (wC G a X N M P S) [1, 4] (wV G (aN a) (aS a) N' S') = wC G a X N' M P S' := rfl
theorem C_u1_2 (G : GT) (a : Nat → Nat) (X N M P S N' M' : Tn) : ups (wC G a X N M P S) [1, 2] (wU2 G (aN a) (aM a) N' M') = wC G a X N' M' P S := rfl
theorem C_u1_3 (G : GT) (a : Nat → Nat) (X N M P S N' P' : Tn) : ups (wC G a X N M P S) [1, 3] (wU2 G (aN a) (aP a) N' P') = wC G a X N' M P' S := rfl
theorem C_u2_4 (G : GT) (a : Nat → Nat) (X N M P S M' S' : Tn) : ups (wC G a X N M P S) [2, 4] (wV G (aM a) (aS a) M' S') = wC G a X N M' P S' := rfl
theorem C_u2_1 (G : GT) (a : Nat → Nat) (X N M P S M' N' : Tn) : ups (wC G a X N M P S) [2, 1] (wU2 G (aM a) (aN a) M' N') = wC G a X N' M' P S := rfl
theorem C_u2_3 (G : GT) (a : Nat → Nat) (X N M P S M' P' : Tn) : ups (wC G a X N M P S) [2, 3] (wU2 G (aM a) (aP a) M' P') = wC G a X N M' P' S := rfl
theorem C_u3_4 (G : GT) (a : Nat → Nat) (X N M P S P' S' : Tn) : ups (wC G a X N M P S) [3, 4] (wV G (aP a) (aS a) P' S') = wC G a X N M P' S' := rfl
theorem C_u3_1 (G : GT) (a : Nat → Nat) (X N M P S P' N' : Tn) : ups (wC G a X N M P S) [3, 1] (wU2 G (aP a) (aN a) P' N') = wC G a X N' M P' S := rfl
theorem C_u3_2 (G : GT) (a : Nat → Nat) (X N M P S P' M' : Tn) : ups (wC G a X N M P S) [3, 2] (wU2 G (aP a) (aM a) P' M') = wC G a X N M' P' S := rfl
theorem R_uall (G : GT) (b : Nat → Nat) (R T R' T' : Tn) : ups (wR G b R T) [0, 1, 2, 3, 4, 5, 6, 7, 8] (wR G b R' T') = wR G b R' T' := rfl
theorem R_u2_5 (G : GT) (b : Nat → Nat) (R T T' : Tn) (F : Int → Int) : ups (wR G b R T) [2, 5] (wL G (b 2) (b 5) (flat T') F) = wR G b (up1 R 5 F) T' := rfl
theorem R_u5_2 (G : GT) (b : Nat → Nat) (R T T' : Tn) (F : Int → Int) : ups (wR G b R T) [5, 2] (wL G (b 5) (b 2) F (flat T')) = wR G b (up1 R 5 F) T' := rfl
theorem R_u2_4 (G : GT) (b : Nat → Nat) (R T T' : Tn) (F : Int → Int) : ups (wR G b R T) [2, 4] (wL G (b 2) (b 4) (flat T') F) = wR G b (up1 R 4 F) T' := rfl
theorem R_u4_2 (G : GT) (b : Nat → Nat) (R T T' : Tn) (F : Int → Int) : ups (wR G b R T) [4, 2] (wL G (b 4) (b 2) F (flat T')) = wR G b (up1 R 4 F) T' := rfl
theorem R_u2_3 (G : GT) (b : Nat → Nat) (R T T' : Tn) (F : Int → Int) : ups (wR G b R T) [2, 3] (wL G (b 2) (b 3) (flat T') F) = wR G b (up1 R 3 F) T' := rfl
theorem R_u3_2 (G : GT) (b : Nat → Nat) (R T T' : Tn) (F : Int → Int) : ups (wR G b R T) [3, 2] (wL G (b 3) (b 2) F (flat T')) = wR G b (up1 R 3 F) T' := rfl
theorem jst_ri {a b : Int} {gs gs' : List va_W} (h : a = b) (hg : gs = gs') : jst (some (.int (iI b))) gs' (some (.int (iI a))) gs := by
  subst h hg
  exact ⟨rfl, rfl⟩
theorem jst_ra {a b : Nat} {gs : List va_W} (h : a = b) : jst (some (.ref b)) gs (some (.ref a)) gs := by
  subst h
  exact ⟨rfl, rfl⟩
theorem jst_rv {gs gs' : List va_W} (hg : gs = gs') : jst none gs' none gs := by
  subst hg
  exact ⟨rfl, rfl⟩
theorem zb_01 (p : Prop) [Decidable p] : zb p = 0 ∨ zb p = 1 := by
  unfold zb
  split <;> simp
/-- n steps, counted from 0 -/
def itN {α : Type} (f : Int → α → α) (a : α) : Nat → α
  | 0 => a
  | n + 1 => f (n : Int) (itN f a n)
def it {α : Type} (f : Int → α → α) (a : α) (i : Int) : α := itN f a i.toNat
theorem it_0 {α : Type} (f : Int → α → α) (a : α) : it f a 0 = a := rfl
theorem it_s {α : Type} (f : Int → α → α) (a : α) {i : Int} (h : 0 ≤ i) : it f a (i + 1) = f i (it f a i) := by
  unfold it
  rw [show (i + 1).toNat = i.toNat + 1 by omega]
  show f (i.toNat : Int) _ = _
  rw [show (i.toNat : Int) = i by omega]
theorem it_neg {α : Type} (f : Int → α → α) (a : α) {i : Int} (h : i ≤ 0) : it f a i = a := by
  unfold it
  rw [show i.toNat = 0 by omega]
  rfl
theorem it_inv {α : Type} {f : Int → α → α} {a : α} (P : Int → α → Prop) (h0 : P 0 a) (hs : ∀ i x, 0 ≤ i → P i x → P (i + 1) (f i x)) : ∀ i, 0 ≤ i → P i (it f a i) := by
  intro i hi
  obtain ⟨n, rfl⟩ : ∃ n : Nat, i = (n : Int) := ⟨i.toNat, by omega⟩
  clear hi
  induction n with
  | zero => exact h0
  | succ n ih =>
    have e : ((n + 1 : Nat) : Int) = (n : Int) + 1 := by omega
    rw [e, it_s _ _ (by omega)]
    exact hs _ _ (by omega) ih
theorem it_cg {α : Type} {f g : Int → α → α} {a : α} {k : Int} (h : ∀ i x, 0 ≤ i → i < k → f i x = g i x) : it f a k = it g a k := by
  by_cases hk : 0 ≤ k
  · have H : ∀ n : Nat, (n : Int) ≤ k → it f a n = it g a n := by
      intro n
      induction n with
      | zero => intro _; rfl
      | succ n ih =>
        intro hn
        have e : ((n + 1 : Nat) : Int) = (n : Int) + 1 := by omega
        rw [e, it_s _ _ (by omega), it_s _ _ (by omega), ih (by omega)]
        exact h _ _ (by omega) (by omega)
    have := H k.toNat (by omega)
    rw [show (k.toNat : Int) = k by omega] at this
    exact this
  · rw [it_neg _ _ (by omega), it_neg _ _ (by omega)]
/-- sums -/
def sSum (f : Int → Int) (i : Int) : Int := it (fun j v => v + f j) 0 i
theorem sSum_0 (f : Int → Int) : sSum f 0 = 0 := rfl
theorem sSum_s (f : Int → Int) {i : Int} (h : 0 ≤ i) : sSum f (i + 1) = sSum f i + f i := it_s _ _ h
/-! bounds -/
def BT (T : Tn) : Prop := ∀ a j, 0 ≤ T a j ∧ T a j ≤ 2000
theorem BT.r {T : Tn} (h : BT T) (a : Nat) (j : Int) : -2147483648 ≤ T a j ∧ T a j < 2147483648 := by
  have := h a j
  omega
def ITd (T : Tn) (d : Int) : Prop := (0 ≤ T 3 d ∧ T 3 d ≤ 5) ∧ (0 ≤ T 4 d ∧ T 4 d < T 0 0) ∧ (0 ≤ T 5 d ∧ T 5 d ≤ 9) ∧ (0 ≤ T 6 d ∧ (T 6 d < T 0 0 ∨ T 6 d = 9)) ∧ (0 ≤ T 7 d ∧ T 7 d ≤ 9)
def ITl (T : Tn) (l : Int) : Prop := (0 ≤ T 1 l ∧ T 1 l ≤ 9) ∧ (0 ≤ T 2 l ∧ T 2 l ≤ 9)
/-- what every town is -/
def IT (T : Tn) : Prop := BT T ∧ (0 ≤ T 0 0 ∧ T 0 0 ≤ 6) ∧ (0 ≤ T 0 1 ∧ T 0 1 ≤ 8) ∧ (0 ≤ T 0 2 ∧ T 0 2 < zp2 (T 0 0)) ∧ (0 ≤ T 0 3 ∧ T 0 3 ≤ 20) ∧ (0 ≤ T 0 4 ∧ T 0 4 ≤ 1100) ∧ (∀ l, 0 ≤ l → l < T 0 0 → ITl T l) ∧ (∀ d, 0 ≤ d → d < T 0 1 → ITd T d)
section
variable {T : Tn} (h : IT T)
theorem IT.b (h : IT T) : BT T := h.1
theorem IT.L (h : IT T) : 0 ≤ T 0 0 ∧ T 0 0 ≤ 6 := h.2.1
theorem IT.D (h : IT T) : 0 ≤ T 0 1 ∧ T 0 1 ≤ 8 := h.2.2.1
theorem IT.o (h : IT T) : 0 ≤ T 0 2 ∧ T 0 2 < zp2 (T 0 0) := h.2.2.2.1
theorem IT.w (h : IT T) : 0 ≤ T 0 3 ∧ T 0 3 ≤ 20 := h.2.2.2.2.1
theorem IT.k (h : IT T) : 0 ≤ T 0 4 ∧ T 0 4 ≤ 1100 := h.2.2.2.2.2.1
theorem IT.l (h : IT T) {l : Int} (h0 : 0 ≤ l) (h1 : l < T 0 0) : (0 ≤ T 1 l ∧ T 1 l ≤ 9) ∧ (0 ≤ T 2 l ∧ T 2 l ≤ 9) := h.2.2.2.2.2.2.1 l h0 h1
theorem IT.d (h : IT T) {d : Int} (h0 : 0 ≤ d) (h1 : d < T 0 1) : (0 ≤ T 3 d ∧ T 3 d ≤ 5) ∧ (0 ≤ T 4 d ∧ T 4 d < T 0 0) ∧ (0 ≤ T 5 d ∧ T 5 d ≤ 9) ∧ (0 ≤ T 6 d ∧ (T 6 d < T 0 0 ∨ T 6 d = 9)) ∧ (0 ≤ T 7 d ∧ T 7 d ≤ 9) := h.2.2.2.2.2.2.2 d h0 h1
end
/-! what is computed -/
/-- the way between two lofts -/
def sWay (T : Tn) (a b : Int) : Int := zabs (T 1 a - T 1 b) + zabs (T 2 a - T 2 b)
theorem sWay_r {T : Tn} (h : IT T) {a b : Int} (ha : 0 ≤ a ∧ a < T 0 0) (hb : 0 ≤ b ∧ b < T 0 0) : 0 ≤ sWay T a b ∧ sWay T a b ≤ 18 := by
  have h1 := h.l ha.1 ha.2
  have h2 := h.l hb.1 hb.2
  unfold sWay zabs
  split <;> split <;> omega
/-- the nearest other loft among the first i -/
def sNear (T : Tn) (f i : Int) : Int := it (fun j best => if j ≠ f ∧ (best = 9 ∨ sWay T f j < sWay T f best) then j else best) 9 i
theorem sNear_r (T : Tn) (f : Int) {i : Int} (hi : 0 ≤ i) (h6 : i ≤ 6) : sNear T f i = 9 ∨ (0 ≤ sNear T f i ∧ sNear T f i < i) := by
  have := it_inv (f := fun j best => if j ≠ f ∧ (best = 9 ∨ sWay T f j < sWay T f best) then j else best) (a := (9 : Int)) (fun i x => x = 9 ∨ (0 ≤ x ∧ x < i)) (Or.inl rfl) (fun i x h0 hx => by
    split <;> omega) i hi
  exact this
/-- where it flies by its kind -/
def sAim (T : Tn) (d : Int) : Int :=
  if T 3 d = 1 then (if 5 ≤ T 5 d then 9 else T 4 d)
  else if T 3 d = 2 then (if sWay T (T 6 d) (T 4 d) ≤ 2 * T 5 d then T 4 d else 9)
  else if T 3 d = 3 then sNear T (T 6 d) (T 0 0)
  else if T 3 d = 5 then (if sWay T (T 6 d) (T 4 d) ≤ 2 * T 5 d ∧ 3 ≤ sWay T (T 6 d) (T 4 d) then T 4 d else 9)
  else T 4 d
def sFly (T : Tn) (d : Int) : Int := if T 6 d = 9 then 9 else sAim T d
def sVal (T : Tn) (d : Int) : Int := if T 3 d = 1 then (if 4 ≤ T 5 d then 1 else 5 - T 5 d) else if T 3 d = 2 then 3 else if T 3 d = 3 then 2 else if T 3 d = 4 then 8 else if T 3 d = 5 then 6 else 5
theorem sVal_r {T : Tn} {d : Int} (h : 0 ≤ T 5 d) : 1 ≤ sVal T d ∧ sVal T d ≤ 8 := by
  unfold sVal
  repeat (split; omega)
  all_goals omega
/-- a bit -/
def zbit (s d : Int) : Int := s / zp2 d % 2
theorem zbit_01 (s d : Int) : zbit s d = 0 ∨ zbit s d = 1 := by
  unfold zbit
  omega
theorem sNear_s (T : Tn) (f : Int) {i : Int} (h : 0 ≤ i) : sNear T f (i + 1) = if i ≠ f ∧ (sNear T f i = 9 ∨ sWay T f i < sWay T f (sNear T f i)) then i else sNear T f i := it_s _ _ h
def sPurse (T : Tn) (l i : Int) : Int := sSum (fun d => if T 6 d = l then sVal T d else 0) i
def sOwn (T : Tn) (l i : Int) : Int := sSum (fun d => if T 4 d = l ∧ T 6 d ≠ 9 then sVal T d else 0) i
def sLost (T : Tn) (i : Int) : Int := sSum (fun d => if T 6 d = 9 then 1 else 0) i
def sWorth (T : Tn) (set i : Int) : Int := sSum (fun d => if zbit set d = 1 then sVal T d else 0) i
theorem sPurse_s (T : Tn) (l : Int) {i : Int} (h : 0 ≤ i) : sPurse T l (i + 1) = sPurse T l i + (if T 6 i = l then sVal T i else 0) := sSum_s _ h
theorem sOwn_s (T : Tn) (l : Int) {i : Int} (h : 0 ≤ i) : sOwn T l (i + 1) = sOwn T l i + (if T 4 i = l ∧ T 6 i ≠ 9 then sVal T i else 0) := sSum_s _ h
theorem sLost_s (T : Tn) {i : Int} (h : 0 ≤ i) : sLost T (i + 1) = sLost T i + (if T 6 i = 9 then 1 else 0) := sSum_s _ h
theorem sWorth_s (T : Tn) (s : Int) {i : Int} (h : 0 ≤ i) : sWorth T s (i + 1) = sWorth T s i + (if zbit s i = 1 then sVal T i else 0) := sSum_s _ h
theorem sSum_r {f : Int → Int} {k m : Int} (h : ∀ j, 0 ≤ j → j < k → 0 ≤ f j ∧ f j ≤ m) : ∀ i, 0 ≤ i → i ≤ k → 0 ≤ sSum f i ∧ sSum f i ≤ m * i := by
  intro i hi
  refine it_inv (f := fun j v => v + f j) (a := (0 : Int)) (fun i v => i ≤ k → 0 ≤ v ∧ v ≤ m * i) (fun _ => ⟨Int.le_refl _, by simp⟩) (fun j v hj ih hb => ?_) i hi
  have h1 := ih (by omega)
  have h2 := h j hj (by omega)
  have e : m * (j + 1) = m * j + m := by rw [Int.mul_add, Int.mul_one]
  omega
/-- one flies home, before that hawk -/
def sGo (T : Tn) (d hawk : Int) : Tn := if sFly T d = 9 then T else up T 6 d (if hawk < sWay T (T 6 d) (sFly T d) then 9 else sFly T d)
def sMay (T : Tn) (d : Int) : Prop := T 6 d ≠ 9 ∧ T 7 d = 0 ∧ zbit (T 0 2) (T 6 d) = 1

