/-! the text -/
def sg (L : Int → Int) (n p : Int) : Int := if p < n then L p else -1
theorem sg_r {L : Int → Int} (h : ∀ j, 0 ≤ L j ∧ L j ≤ 255) (n p : Int) : -1 ≤ sg L n p ∧ sg L n p ≤ 255 := by
  have := h p
  unfold sg
  split <;> omega
abbrev sDg (c : Int) : Prop := 0 ≤ c - 48 ∧ c - 48 < 10
def sKind (c : Int) : Int := if c = 100 then 0 else if c = 111 then 1 else if c = 121 then 2 else if c = 115 then 3 else if c = 98 then 4 else if c = 116 then 5 else -9
theorem sKind_r (c : Int) : -9 ≤ sKind c ∧ sKind c ≤ 5 := by
  unfold sKind
  repeat' split
  all_goals omega
/-- a digit, a kind, the end, each with what comes behind -/
def sED (L : Int → Int) (n p k : Int) : Int := if sDg (sg L n p) then k else -1 - p
def sEK (L : Int → Int) (n p k : Int) : Int := if 0 ≤ sKind (sg L n p) then k else -1 - p
def sES (L : Int → Int) (n p : Int) : Int := if sg L n p = 59 then p + 1 else -1 - p
/-- the place behind the statement at p; -1 less the misfit's place -/
def sE (L : Int → Int) (n p : Int) : Int :=
  if sg L n p = 108 then sED L n (p + 1) (sED L n (p + 1 + 1) (sES L n (p + 1 + 1 + 1)))
  else if sg L n p = 100 then sEK L n (p + 1) (sED L n (p + 1 + 1) (sED L n (p + 1 + 1 + 1) (sES L n (p + 1 + 1 + 1 + 1))))
  else if sg L n p = 111 then sED L n (p + 1) (sES L n (p + 1 + 1))
  else if sg L n p = 104 then sED L n (p + 1) (if sDg (sg L n (p + 1 + 1)) then sES L n (p + 1 + 1 + 1) else sES L n (p + 1 + 1))
  else -1 - p
def sP2 (L : Int → Int) (n p : Int) : Int := if sDg (sg L n p) then (if sDg (sg L n (p + 1)) then p + 1 + 1 else p + 1) else p
def sN2 (L : Int → Int) (n p : Int) : Int := if sDg (sg L n p) then (if sDg (sg L n (p + 1)) then 10 * (sg L n p - 48) + (sg L n (p + 1) - 48) else sg L n p - 48) else 0
def sSemi (L : Int → Int) (i : Int) : Int := sSum (fun j => if L j = 59 then 1 else 0) i
theorem sSemi_s (L : Int → Int) {i : Int} (h : 0 ≤ i) : sSemi L (i + 1) = sSemi L i + (if L i = 59 then 1 else 0) := sSum_s _ h
theorem sSemi_n {L : Int → Int} {n p : Int} (h : 0 ≤ p) (hs : sg L n p ≠ -1) (hne : sg L n p ≠ 59) : sSemi L (p + 1) = sSemi L p := by
  unfold sg at hs hne
  by_cases e : p < n
  · rw [if_pos e] at hne
    rw [sSemi_s L h, if_neg hne, Int.add_zero]
  · rw [if_neg e] at hs
    exact absurd rfl hs
theorem sES_r {L : Int → Int} {n p : Int} (h : 0 ≤ p) (hl : ∀ j, 0 ≤ L j) : 0 ≤ sES L n p → (sES L n p = p + 1 ∧ p + 1 ≤ n ∧ sSemi L (p + 1) = sSemi L p + 1) := by
  unfold sES
  intro hh
  by_cases e : sg L n p = 59
  · rw [if_pos e]
    unfold sg at e
    by_cases q : p < n
    · rw [if_pos q] at e
      exact ⟨rfl, by omega, by rw [sSemi_s L h, if_pos e]⟩
    · rw [if_neg q] at e
      omega
  · rw [if_neg e] at hh
    omega
theorem sED_n {L : Int → Int} {n p k : Int} (hp : 0 ≤ p) (h : 0 ≤ sED L n p k) : sDg (sg L n p) ∧ sED L n p k = k ∧ sSemi L (p + 1) = sSemi L p := by
  unfold sED at h ⊢
  by_cases e : sDg (sg L n p)
  · rw [if_pos e]
    exact ⟨e, rfl, sSemi_n (n := n) hp (by obtain ⟨a, b⟩ := e; omega) (by obtain ⟨a, b⟩ := e; omega)⟩
  · rw [if_neg e] at h
    omega
theorem sEK_n {L : Int → Int} {n p k : Int} (hp : 0 ≤ p) (h : 0 ≤ sEK L n p k) : 0 ≤ sKind (sg L n p) ∧ sEK L n p k = k ∧ sSemi L (p + 1) = sSemi L p := by
  unfold sEK at h ⊢
  by_cases e : 0 ≤ sKind (sg L n p)
  · rw [if_pos e]
    refine ⟨e, rfl, sSemi_n (n := n) hp ?_ ?_⟩
    · intro q; rw [q] at e; exact absurd e (by decide)
    · intro q; rw [q] at e; exact absurd e (by decide)
  · rw [if_neg e] at h
    omega
theorem sE_r {L : Int → Int} {n p : Int} (hp : 0 ≤ p) (hl : ∀ j, 0 ≤ L j) (h : 0 ≤ sE L n p) : p + 3 ≤ sE L n p ∧ sE L n p ≤ n ∧ sSemi L (sE L n p) = sSemi L p + 1 := by
  unfold sE at h ⊢
  by_cases e1 : sg L n p = 108
  · rw [if_pos e1] at h ⊢
    have b0 := sSemi_n (L := L) (n := n) hp (by omega) (by omega)
    obtain ⟨a1, a2, a3⟩ := sED_n (by omega) h
    rw [a2] at h ⊢
    obtain ⟨c1, c2, c3⟩ := sED_n (by omega) h
    rw [c2] at h ⊢
    obtain ⟨d1, d2, d3⟩ := sES_r (by omega) hl h
    rw [d1, d3]
    omega
  · rw [if_neg e1] at h ⊢
    by_cases e2 : sg L n p = 100
    · rw [if_pos e2] at h ⊢
      have b0 := sSemi_n (L := L) (n := n) hp (by omega) (by omega)
      obtain ⟨a1, a2, a3⟩ := sEK_n (by omega) h
      rw [a2] at h ⊢
      obtain ⟨c1, c2, c3⟩ := sED_n (by omega) h
      rw [c2] at h ⊢
      obtain ⟨f1, f2, f3⟩ := sED_n (by omega) h
      rw [f2] at h ⊢
      obtain ⟨d1, d2, d3⟩ := sES_r (by omega) hl h
      rw [d1, d3]
      omega
    · rw [if_neg e2] at h ⊢
      by_cases e3 : sg L n p = 111
      · rw [if_pos e3] at h ⊢
        have b0 := sSemi_n (L := L) (n := n) hp (by omega) (by omega)
        obtain ⟨a1, a2, a3⟩ := sED_n (by omega) h
        rw [a2] at h ⊢
        obtain ⟨d1, d2, d3⟩ := sES_r (by omega) hl h
        rw [d1, d3]
        omega
      · rw [if_neg e3] at h ⊢
        by_cases e4 : sg L n p = 104
        · rw [if_pos e4] at h ⊢
          have b0 := sSemi_n (L := L) (n := n) hp (by omega) (by omega)
          obtain ⟨a1, a2, a3⟩ := sED_n (by omega) h
          rw [a2] at h ⊢
          by_cases e5 : sDg (sg L n (p + 1 + 1))
          · rw [if_pos e5] at h ⊢
            have b1 := sSemi_n (L := L) (n := n) (p := p + 1 + 1) (by omega) (by obtain ⟨u, v⟩ := e5; omega) (by obtain ⟨u, v⟩ := e5; omega)
            obtain ⟨d1, d2, d3⟩ := sES_r (by omega) hl h
            rw [d1, d3]
            omega
          · rw [if_neg e5] at h ⊢
            obtain ⟨d1, d2, d3⟩ := sES_r (by omega) hl h
            rw [d1, d3]
            omega
        · rw [if_neg e4] at h
          omega
/-- the end of the fitting, with so many statements at most -/
def sF (L : Int → Int) (n : Int) : Nat → Int → Int
  | 0, p => p
  | k + 1, p => if sE L n p < 0 then sE L n p else if n ≤ sE L n p then sE L n p else sF L n k (sE L n p)
theorem sF_s (L : Int → Int) (n : Int) (k : Nat) (p : Int) : sF L n (k + 1) p = if sE L n p < 0 then sE L n p else if n ≤ sE L n p then sE L n p else sF L n k (sE L n p) := rfl
/-- what a statement tells -/
noncomputable def sOk (L : Int → Int) (n p : Int) (U : Tn) : Prop :=
  if sg L n p = 108 then U 0 0 ≠ 6 else if sg L n p = 100 then sg L n (p + 1 + 1) - 48 < U 0 0 ∧ U 0 1 ≠ 8 else if sg L n p = 111 then sg L n (p + 1) - 48 < U 0 0 else sN2 L n (p + 1) ≤ 20
def sTo (L : Int → Int) (n p : Int) (U : Tn) : Tn :=
  if sg L n p = 108 then up (up (up U 1 (U 0 0) (sg L n (p + 1) - 48)) 2 (U 0 0) (sg L n (p + 1 + 1) - 48)) 0 0 (U 0 0 + 1) else if sg L n p = 100 then sAdd U (sKind (sg L n (p + 1))) (sg L n (p + 1 + 1) - 48) (sg L n (p + 1 + 1 + 1) - 48) else if sg L n p = 111 then up U 0 2 (zxor (U 0 2) (1 * zp2 (sg L n (p + 1) - 48))) else up U 0 3 (sN2 L n (p + 1))
/-- what is told of the statement at p -/
def sTl (L : Int → Int) (n p : Int) (F : Int → Int) : Prop :=
  (sg L n p = 108 → F 0 = sg L n (p + 1) - 48 ∧ F 1 = sg L n (p + 1 + 1) - 48) ∧ (sg L n p = 100 → F 0 = sKind (sg L n (p + 1)) ∧ F 1 = sg L n (p + 1 + 1) - 48 ∧ F 2 = sg L n (p + 1 + 1 + 1) - 48) ∧ (sg L n p = 111 → F 0 = sg L n (p + 1) - 48) ∧ (sg L n p = 104 → F 0 = sN2 L n (p + 1))
noncomputable def sG (L : Int → Int) (n : Int) : Nat → Int → Tn → Int × Tn
  | 0, p, U => (p, U)
  | k + 1, p, U => if p < n then (if zc (sOk L n p U) = 1 then sG L n k (sE L n p) (sTo L n p U) else (-1 - p, U)) else (p, U)
theorem sG_s (L : Int → Int) (n : Int) (k : Nat) (p : Int) (U : Tn) : sG L n (k + 1) p U = if p < n then (if zc (sOk L n p U) = 1 then sG L n k (sE L n p) (sTo L n p U) else (-1 - p, U)) else (p, U) := rfl
/-! what a fitting statement's numbers are -/
def sNm (L : Int → Int) (n p : Int) : Prop :=
  (sg L n p = 108 → sDg (sg L n (p + 1)) ∧ sDg (sg L n (p + 1 + 1))) ∧ (sg L n p = 100 → (0 ≤ sKind (sg L n (p + 1)) ∧ sKind (sg L n (p + 1)) ≤ 5) ∧ sDg (sg L n (p + 1 + 1)) ∧ sDg (sg L n (p + 1 + 1 + 1))) ∧ (sg L n p = 111 → sDg (sg L n (p + 1))) ∧ (sg L n p = 104 → 0 ≤ sN2 L n (p + 1) ∧ sN2 L n (p + 1) ≤ 99) ∧ (sg L n p = 108 ∨ sg L n p = 100 ∨ sg L n p = 111 ∨ sg L n p = 104)
theorem sN2_r (L : Int → Int) (n p : Int) : 0 ≤ sN2 L n p ∧ sN2 L n p ≤ 99 := by
  unfold sN2
  repeat' split
  all_goals (try simp only [sDg] at *)
  all_goals omega
theorem sE_nm {L : Int → Int} {n p : Int} (hp : 0 ≤ p) (h : 0 ≤ sE L n p) : sNm L n p := by
  unfold sE at h
  by_cases e1 : sg L n p = 108
  · rw [if_pos e1] at h
    obtain ⟨a1, a2, a3⟩ := sED_n (by omega) h
    rw [a2] at h
    obtain ⟨c1, c2, c3⟩ := sED_n (by omega) h
    exact ⟨fun _ => ⟨a1, c1⟩, fun q => by omega, fun q => by omega, fun q => by omega, by omega⟩
  · rw [if_neg e1] at h
    by_cases e2 : sg L n p = 100
    · rw [if_pos e2] at h
      obtain ⟨a1, a2, a3⟩ := sEK_n (by omega) h
      rw [a2] at h
      obtain ⟨c1, c2, c3⟩ := sED_n (by omega) h
      rw [c2] at h
      obtain ⟨f1, f2, f3⟩ := sED_n (by omega) h
      exact ⟨fun q => by omega, fun _ => ⟨⟨a1, (sKind_r _).2⟩, c1, f1⟩, fun q => by omega, fun q => by omega, by omega⟩
    · rw [if_neg e2] at h
      by_cases e3 : sg L n p = 111
      · rw [if_pos e3] at h
        obtain ⟨a1, a2, a3⟩ := sED_n (by omega) h
        exact ⟨fun q => by omega, fun q => by omega, fun _ => a1, fun q => by omega, by omega⟩
      · rw [if_neg e3] at h
        by_cases e4 : sg L n p = 104
        · exact ⟨fun q => by omega, fun q => by omega, fun q => by omega, fun _ => sN2_r _ _ _, by omega⟩
        · rw [if_neg e4] at h
          omega
theorem zxor_kr : ∀ n : Nat, n < 7 → ∀ s : Nat, s < 64 → ∀ c : Nat, c < n → (s : Int) < zp2 (n : Int) → 0 ≤ zxor (s : Int) (1 * zp2 (c : Int)) ∧ zxor (s : Int) (1 * zp2 (c : Int)) < zp2 (n : Int) := by decide +kernel
theorem zp2_km : ∀ n : Nat, n < 6 → zp2 (n : Int) ≤ zp2 ((n : Int) + 1) := by decide
theorem IT_loft {U : Tn} (h : IT U) (hL : U 0 0 < 6) {x y : Int} (hx : 0 ≤ x ∧ x ≤ 9) (hy : 0 ≤ y ∧ y ≤ 9) : IT (up (up (up U 1 (U 0 0) x) 2 (U 0 0) y) 0 0 (U 0 0 + 1)) := by
  have hL0 := h.L
  have ho := h.o
  have hz := zp2_km (U 0 0).toNat (by omega)
  rw [show ((U 0 0).toNat : Int) = U 0 0 by omega] at hz
  refine ⟨BT_up (BT_up (BT_up h.b (by omega)) (by omega)) (by omega), ?_, h.D, ?_, h.w, h.k, fun l h0 h1 => ?_, fun d h0 h1 => ?_⟩
  · show 0 ≤ U 0 0 + 1 ∧ U 0 0 + 1 ≤ 6
    omega
  · show 0 ≤ U 0 2 ∧ U 0 2 < zp2 (U 0 0 + 1)
    omega
  · have h1' : l < U 0 0 + 1 := h1
    show (0 ≤ zup (U 1) (U 0 0) x l ∧ zup (U 1) (U 0 0) x l ≤ 9) ∧ (0 ≤ zup (U 2) (U 0 0) y l ∧ zup (U 2) (U 0 0) y l ≤ 9)
    by_cases q : l = U 0 0
    · rw [q, zup_s, zup_s]
      omega
    · have := h.l h0 (by omega)
      rw [zup_n q, zup_n q]
      omega
  · have hd := h.d h0 h1
    refine ⟨hd.1, ?_, hd.2.2.1, ?_, hd.2.2.2.2⟩
    · show 0 ≤ U 4 d ∧ U 4 d < U 0 0 + 1
      omega
    · show 0 ≤ U 6 d ∧ (U 6 d < U 0 0 + 1 ∨ U 6 d = 9)
      omega
theorem zxor_rr {U : Tn} (h : IT U) {c : Int} (hc : 0 ≤ c ∧ c < U 0 0) : 0 ≤ zxor (U 0 2) (1 * zp2 c) ∧ zxor (U 0 2) (1 * zp2 c) < zp2 (U 0 0) := by
  have hL := h.L
  have ho := h.o
  have hz := zp2_le6 hL
  have := zxor_kr (U 0 0).toNat (by omega) (U 0 2).toNat (by omega) c.toNat (by omega)
  rw [show ((U 0 0).toNat : Int) = U 0 0 by omega, show ((U 0 2).toNat : Int) = U 0 2 by omega, show (c.toNat : Int) = c by omega] at this
  exact this ho.2
theorem IT_to {L : Int → Int} {n p : Int} {U : Tn} (h : IT U) (hn : sNm L n p) (ho : zc (sOk L n p U) = 1) : IT (sTo L n p U) := by
  have ho := zc_n (p := sOk L n p U) (by omega)
  have hL := h.L
  have hD := h.D
  obtain ⟨n1, n2, n3, n4, n5⟩ := hn
  unfold sOk at ho
  unfold sTo
  by_cases e1 : sg L n p = 108
  · rw [if_pos e1] at ho ⊢
    obtain ⟨⟨a, b⟩, c, d⟩ := n1 e1
    exact IT_loft h (by omega) (by omega) (by omega)
  · rw [if_neg e1] at ho ⊢
    by_cases e2 : sg L n p = 100
    · rw [if_pos e2] at ho ⊢
      obtain ⟨a, ⟨b, c⟩, d, e⟩ := n2 e2
      exact IT_add h (by omega) a (by omega) (by omega)
    · rw [if_neg e2] at ho ⊢
      by_cases e3 : sg L n p = 111
      · rw [if_pos e3] at ho ⊢
        obtain ⟨a, b⟩ := n3 e3
        exact IT_open h (zxor_rr h (by omega))
      · rw [if_neg e3] at ho ⊢
        have := n4 (by omega)
        exact IT_hawk h (by omega)
theorem sTo_4 {L : Int → Int} {n p : Int} {U : Tn} : sTo L n p U 0 4 = U 0 4 := by
  unfold sTo
  repeat' split
  all_goals rfl
/-- the answer, and the town behind it -/
noncomputable def v_town (L : Int → Int) (n : Int) (T : Tn) : Int := if sF L n 64 0 < 0 then -999 + sF L n 64 0 else if (sG L n 65 0 T).1 < 0 then -1999 + (sG L n 65 0 T).1 else sSemi L n
noncomputable def t_town (L : Int → Int) (n : Int) (T : Tn) : Tn := if sF L n 64 0 < 0 then T else if (sG L n 65 0 T).1 < 0 then T else (sG L n 65 0 T).2
/-! the reference's place and what it is told -/
def rd (R : Tn) (p : Int) (F : Int → Int) : Tn := up1 (up R 0 2 p) 7 F
theorem rd_i (R : Tn) (p : Int) : up R 0 2 p = rd R p (R 7) := by
  funext a
  unfold rd up1
  by_cases e : a = 7
  · rw [if_pos e, e]; rfl
  · rw [if_neg e]
theorem zup_zup (F : Int → Int) (z v w : Int) : zup (zup F z v) z w = zup F z w := by
  funext j
  unfold zup
  by_cases e : j = z
  · rw [if_pos e, if_pos e]
  · rw [if_neg e, if_neg e, if_neg e]
theorem rd_7 (R : Tn) (p : Int) (F : Int → Int) (z v : Int) : up (rd R p F) 7 z v = rd R p (zup F z v) := by
  funext a
  unfold rd up1 up
  by_cases e : a = 7
  · subst e; rfl
  · simp only [if_neg e]
theorem rd_2 (R : Tn) (p : Int) (F : Int → Int) (q : Int) : up (rd R p F) 0 2 q = rd R q F := by
  funext a
  unfold rd up1 up
  by_cases e : a = 7
  · subst e; rfl
  · by_cases e2 : a = 0
    · subst e2
      show zup (zup (R 0) 2 p) 2 q = zup (R 0) 2 q
      rw [zup_zup]
    · simp only [if_neg e, if_neg e2]
section
variable {G : GT} {b : Nat → Nat} {R T : Tn} {p q : Int} {F F' : Int → Int} {z v : Int}
theorem rd_p9 (e : v = q) : (wR G b (rd R p F) T).set 0 (([(b 0, .inr (9, [.ref (b 1), .ref (b 2), .ref (b 3), .ref (b 4), .ref (b 5), .int (iI (rd R p F 0 0)), .ref (b 6), .ref (b 7), .int (iI (rd R p F 0 1)), .int (iI (rd R p F 0 2)), .ref (b 8), .int (iI (rd R p F 0 3))]))] : va_W).set 0 (b 0, .inr (9, ([.ref (b 1), .ref (b 2), .ref (b 3), .ref (b 4), .ref (b 5), .int (iI (rd R p F 0 0)), .ref (b 6), .ref (b 7), .int (iI (rd R p F 0 1)), .int (iI (rd R p F 0 2)), .ref (b 8), .int (iI (rd R p F 0 3))] : List Value).set 9 (.int (iI v))))) = wR G b (rd R q F) T := by
  subst e
  rw [← rd_2 R p F v]
  rfl
theorem rd_a7 (e : zup F z v = F') : (wR G b (rd R p F) T).set 7 (([(b 7, ia G.2.1 3 (rd R p F 7))] : va_W).set 0 (b 7, ia G.2.1 3 (zup (rd R p F 7) z v))) = wR G b (rd R p F') T := by
  subst e
  rw [← rd_7 R p F z v]
  rfl
end
set_option maxRecDepth 100000 in
set_option maxHeartbeats 4000000 in
theorem c_X9_sign (l : Launch) (G : GT) (b : Nat → Nat) (R T : Tn) (p : Int) (F : Int → Int) (hn1 : 0 ≤ R 0 1 ∧ R 0 1 ≤ 64) (h6 : ∀ j, 0 ≤ R 6 j ∧ R 6 j ≤ 255) (hp : 0 ≤ p ∧ p ≤ 64) : Cn l yX9_sign cX9_sign 1 (Option.some .int) ({ frames := 0, cells := 0, slots := 0, locals := 0 }) G [.ref (b 0)] (wR G b (rd R p F) T) (jst (some (.int (iI (sg (R 6) (R 0 1) p)))) (wR G b (rd R p F) T)) := by
  refine Cn_in RX9 [some (.ref (b 0))] (by decide +kernel) rfl rfl rfl (Nat.le_of_ble_eq_true rfl) (fun K C hQ => ?_)
  have e2 : rd R p F 0 2 = p := rfl
  have e1 : rd R p F 0 1 = R 0 1 := rfl
  have hsr := sg_r h6 (R 0 1) p
  refine r_aload_n (pc := 0) C 0 dX9_sign_0 rfl rfl ?_
  refine r_get (pc := 1) C 0 0 9 dX9_sign_1 in_X9 rfl rfl (ci := 9) rfl (by decide) tw_750 rfl rfl ?_
  refine r_aload_n (pc := 4) C 0 dX9_sign_4 rfl rfl ?_
  refine r_get (pc := 5) C 0 0 8 dX9_sign_5 in_X9 rfl rfl (ci := 9) rfl (by decide) tw_749 rfl rfl ?_
  refine r_icmp_ge (pc := 8) (tgt := 23) C dX9_sign_8 (by decide) (by omega) (by omega) (fun c8 => ?_) (fun c8 => ?_)
  · refine r_iconst (pc := 23) C dX9_sign_23 ?_
    exact r_iret (pc := 24) C hQ dX9_sign_24 rfl (jst_ri (by first | (show R 6 p = _; unfold sg; rw [if_pos (by omega)]; done) | (unfold sg; rw [if_neg (by omega)])) rfl)
  · refine r_aload_n (pc := 11) C 0 dX9_sign_11 rfl rfl ?_
    refine r_get (pc := 12) C 0 0 6 dX9_sign_12 in_X9 rfl rfl (ci := 9) rfl (by decide) tw_747 rfl rfl ?_
    refine r_aload_n (pc := 15) C 0 dX9_sign_15 rfl rfl ?_
    refine r_get (pc := 16) C 0 0 9 dX9_sign_16 in_X9 rfl rfl (ci := 9) rfl (by decide) tw_750 rfl rfl ?_
    refine r_iaload (pc := 19) C 6 0 dX9_sign_19 rfl rfl (by decide) (by omega) ?_
    refine r_goto (pc := 20) (tgt := 24) C dX9_sign_20 (by decide) ?_
    exact r_iret (pc := 24) C hQ dX9_sign_24 rfl (jst_ri (by first | (show R 6 p = _; unfold sg; rw [if_pos (by omega)]; done) | (unfold sg; rw [if_neg (by omega)])) rfl)

