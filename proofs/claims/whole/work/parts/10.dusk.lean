/-! cells that hold the same -/
theorem ia_eq {D : va_G} {cl : List vw_C} {a n : Nat} {cI : ClassId} {F F' : Int → Int} {H : Heap} (h : va_at D cl (a, ia cI n F) H) (e : ∀ j : Int, 0 ≤ j → j < n → F j = F' j) : va_at D cl (a, ia cI n F') H := by
  show H[a]? = some (vp_cell cI (n, .inl (fun j : Nat => iI (F' (j : Int)))))
  refine (show H[a]? = some (vp_cell cI (n, .inl (fun j : Nat => iI (F (j : Int))))) from h).trans ?_
  rw [vp_cell_i, vp_cell_i]
  congr 1
  unfold arrV
  congr 1
  congr 1
  funext j
  have hj := j.isLt
  show Value.int (iI (F (j.val : Int))) = Value.int (iI (F' (j.val : Int)))
  rw [e _ (by omega) (by omega)]
theorem Wc.cong {K : KT} {G : GT} {pc : Nat} {vs : List (Option Value)} {st : List Value} {gs gs' : List va_W} (hs : shp gs' = shp gs) (h : ∀ H, PG G.1 gs H → PG G.1 gs' H) (k : Wc K G pc vs st gs') : Wc K G pc vs st gs := fun H locs ls hP hD hS hl => k H locs ls (h H hP) (hD.same hs) hS hl
theorem wL_eq {G : GT} {p q : Nat} {F1 F2 F3 : Int → Int} {H : Heap} (h : PG G.1 (wL G p q F1 F2) H) (e : ∀ j : Int, 0 ≤ j → j < 57 → F2 j = F3 j) : PG G.1 (wL G p q F1 F3) H := by
  rw [PG.mem] at h ⊢
  intro g hg c hc
  rcases List.mem_cons.mp hg with rfl | hg
  · exact h _ List.mem_cons_self c hc
  · rcases List.mem_cons.mp hg with rfl | hg
    · rcases List.mem_cons.mp hc with rfl | hc
      · exact ia_eq (h [(q, ia G.2.1 57 F2)] (List.mem_cons_of_mem _ List.mem_cons_self) _ List.mem_cons_self) (fun j h0 h1 => e j h0 (by omega))
      · cases hc
    · cases hg
theorem R_ends {G : GT} {b : Nat → Nat} {R T T0 : Tn} {k : Nat} (hk : k = 5 ∨ k = 4 ∨ k = 3) (h : R k = flat T0) : ups (wR G b R T) [k, 2] (wL G (b k) (b 2) (R k) (R k)) = wR G b R T0 := by
  rcases hk with rfl | rfl | rfl
  · exact congrArg (fun F => [[(b 0, .inr (9, [.ref (b 1), .ref (b 2), .ref (b 3), .ref (b 4), .ref (b 5), .int (iI (R 0 0)), .ref (b 6), .ref (b 7), .int (iI (R 0 1)), .int (iI (R 0 2)), .ref (b 8), .int (iI (R 0 3))]))], [(b 1, ia G.2.1 7 (R 1))], [(b 2, ia G.2.1 57 F)], [(b 3, ia G.2.1 57 (R 3))], [(b 4, ia G.2.1 57 (R 4))], [(b 5, ia G.2.1 57 (R 5))], [(b 6, ia G.2.1 64 (R 6))], [(b 7, ia G.2.1 3 (R 7))], [(b 8, ia G.2.1 8 (R 8))]]) h
  · exact congrArg (fun F => [[(b 0, .inr (9, [.ref (b 1), .ref (b 2), .ref (b 3), .ref (b 4), .ref (b 5), .int (iI (R 0 0)), .ref (b 6), .ref (b 7), .int (iI (R 0 1)), .int (iI (R 0 2)), .ref (b 8), .int (iI (R 0 3))]))], [(b 1, ia G.2.1 7 (R 1))], [(b 2, ia G.2.1 57 F)], [(b 3, ia G.2.1 57 (R 3))], [(b 4, ia G.2.1 57 (R 4))], [(b 5, ia G.2.1 57 (R 5))], [(b 6, ia G.2.1 64 (R 6))], [(b 7, ia G.2.1 3 (R 7))], [(b 8, ia G.2.1 8 (R 8))]]) h
  · exact congrArg (fun F => [[(b 0, .inr (9, [.ref (b 1), .ref (b 2), .ref (b 3), .ref (b 4), .ref (b 5), .int (iI (R 0 0)), .ref (b 6), .ref (b 7), .int (iI (R 0 1)), .int (iI (R 0 2)), .ref (b 8), .int (iI (R 0 3))]))], [(b 1, ia G.2.1 7 (R 1))], [(b 2, ia G.2.1 57 F)], [(b 3, ia G.2.1 57 (R 3))], [(b 4, ia G.2.1 57 (R 4))], [(b 5, ia G.2.1 57 (R 5))], [(b 6, ia G.2.1 64 (R 6))], [(b 7, ia G.2.1 3 (R 7))], [(b 8, ia G.2.1 8 (R 8))]]) h
section
variable {K : KT} {l : Launch} {G : GT} {cc : ByteArray} {own : String} {ret : Option FieldType} {rm : Room} {pc : Nat} {vs : List (Option Value)} {st : List Value} {gs : List va_W}
theorem r_ialoadE (C : Cf K l G cc own ret rm) {a n : Nat} {z w : Int} {g : va_W} {F : Int → Int} (i q0 : Nat) (hd : decode cc pc = .ok (.iaload, 1)) (hg : gs[i]? = some g) (he : g[q0]? = some (a, ia G.2.1 n F)) (hn : n < 2147483648) (hz : 0 ≤ z ∧ z < n) (hv : F z = w) (k : Wc K G (pc + 1) vs (.int (iI w) :: st) gs) : Wc K G pc vs (.int (iI z) :: .ref a :: st) gs := by
  subst hv
  exact r_iaload C i q0 hd hg he hn hz k
end
/-! writing a town -/
theorem zp2_le6 {z : Int} (h : 0 ≤ z ∧ z ≤ 6) : zp2 z ≤ 64 := by
  have : z = 0 ∨ z = 1 ∨ z = 2 ∨ z = 3 ∨ z = 4 ∨ z = 5 ∨ z = 6 := by omega
  rcases this with rfl | rfl | rfl | rfl | rfl | rfl | rfl <;> decide
theorem up_s (T : Tn) (a : Nat) (z v : Int) : up T a z v a z = v := by
  unfold up zup
  rw [if_pos rfl, if_pos rfl]
theorem up_a {T : Tn} {a a' : Nat} {z v : Int} (h : a' ≠ a) : up T a z v a' = T a' := by
  unfold up
  rw [if_neg h]
theorem up_z {T : Tn} {a a' : Nat} {z v j : Int} (h : j ≠ z) : up T a z v a' j = T a' j := by
  unfold up zup
  by_cases e : a' = a
  · rw [if_pos e, if_neg h, e]
  · rw [if_neg e]
theorem up_same {T : Tn} {a : Nat} {z v : Int} (h : T a z = v) : up T a z v = T := by
  funext a' j
  unfold up zup
  by_cases e : a' = a
  · rw [if_pos e]
    by_cases e2 : j = z
    · rw [if_pos e2, ← h, e, e2]
    · rw [if_neg e2, e]
  · rw [if_neg e]
theorem up_comm (T : Tn) {a a2 : Nat} {z z2 : Int} (v v2 : Int) (h : a ≠ a2 ∨ z ≠ z2) : up (up T a z v) a2 z2 v2 = up (up T a2 z2 v2) a z v := by
  funext a' j
  unfold up zup
  by_cases e : a' = a <;> by_cases e2 : a' = a2 <;> by_cases e3 : j = z <;> by_cases e4 : j = z2 <;> simp_all
theorem BT_up {T : Tn} {a : Nat} {z v : Int} (h : BT T) (hv : 0 ≤ v ∧ v ≤ 2000) : BT (up T a z v) := by
  intro a' j
  unfold up zup
  split
  · dsimp only
    split
    · exact hv
    · exact h _ _
  · exact h _ _
theorem IT_at {T : Tn} {d v : Int} (h : IT T) (hv : 0 ≤ v ∧ (v < T 0 0 ∨ v = 9)) : IT (up T 6 d v) := by
  have hL := h.L
  refine ⟨BT_up h.b (by omega), h.L, h.D, h.o, h.w, h.k, fun l h0 h1 => h.l h0 h1, fun e h0 h1 => ?_⟩
  have hd := h.d h0 h1
  refine ⟨hd.1, hd.2.1, hd.2.2.1, ?_, hd.2.2.2.2⟩
  by_cases q : e = d
  · subst q
    rw [up_s]
    exact hv
  · rw [up_z q]
    exact hd.2.2.2.1
theorem IT_clip {T : Tn} {d v : Int} (h : IT T) (hv : 0 ≤ v ∧ v ≤ 9) : IT (up T 7 d v) := by
  refine ⟨BT_up h.b (by omega), h.L, h.D, h.o, h.w, h.k, fun l h0 h1 => h.l h0 h1, fun e h0 h1 => ?_⟩
  have hd := h.d h0 h1
  refine ⟨hd.1, hd.2.1, hd.2.2.1, hd.2.2.2.1, ?_⟩
  by_cases q : e = d
  · subst q
    rw [up_s]
    exact hv
  · rw [up_z q]
    exact hd.2.2.2.2
theorem IT_age {T : Tn} {d v : Int} (h : IT T) (hv : 0 ≤ v ∧ v ≤ 9) : IT (up T 5 d v) := by
  refine ⟨BT_up h.b (by omega), h.L, h.D, h.o, h.w, h.k, fun l h0 h1 => h.l h0 h1, fun e h0 h1 => ?_⟩
  have hd := h.d h0 h1
  refine ⟨hd.1, hd.2.1, ?_, hd.2.2.2.1, hd.2.2.2.2⟩
  by_cases q : e = d
  · subst q
    rw [up_s]
    exact hv
  · rw [up_z q]
    exact hd.2.2.1
theorem IT_open {T : Tn} {v : Int} (h : IT T) (hv : 0 ≤ v ∧ v < zp2 (T 0 0)) : IT (up T 0 2 v) := by
  have hL := h.L
  have hz : zp2 (T 0 0) ≤ 64 := zp2_le6 hL
  exact ⟨BT_up h.b (by omega), h.L, h.D, hv, h.w, h.k, fun l h0 h1 => h.l h0 h1, fun e h0 h1 => h.d h0 h1⟩
theorem IT_hawk {T : Tn} {v : Int} (h : IT T) (hv : 0 ≤ v ∧ v ≤ 20) : IT (up T 0 3 v) :=
  ⟨BT_up h.b (by omega), h.L, h.D, h.o, hv, h.k, fun l h0 h1 => h.l h0 h1, fun e h0 h1 => h.d h0 h1⟩
theorem IT_dusk {T : Tn} {v : Int} (h : IT T) (hv : 0 ≤ v ∧ v ≤ 1100) : IT (up T 0 4 v) :=
  ⟨BT_up h.b (by omega), h.L, h.D, h.o, h.w, hv, fun l h0 h1 => h.l h0 h1, fun e h0 h1 => h.d h0 h1⟩
/-- a dove more -/
def sAdd (T : Tn) (k h a : Int) : Tn := up (up (up (up (up (up T 3 (T 0 1) k) 4 (T 0 1) h) 5 (T 0 1) a) 6 (T 0 1) h) 7 (T 0 1) 0) 0 1 (T 0 1 + 1)
theorem IT_add {T : Tn} {k h a : Int} (hT : IT T) (hD : T 0 1 < 8) (hk : 0 ≤ k ∧ k ≤ 5) (hh : 0 ≤ h ∧ h < T 0 0) (ha : 0 ≤ a ∧ a ≤ 9) : IT (sAdd T k h a) := by
  have hL := hT.L
  have hDD := hT.D
  unfold sAdd
  refine ⟨BT_up (BT_up (BT_up (BT_up (BT_up (BT_up hT.b (by omega)) (by omega)) (by omega)) (by omega)) (by omega)) (by omega), hT.L, ⟨?_, ?_⟩, hT.o, hT.w, hT.k, fun l h0 h1 => hT.l h0 h1, fun e h0 h1 => ?_⟩
  · show 0 ≤ T 0 1 + 1
    omega
  · show T 0 1 + 1 ≤ 8
    omega
  · have h2 : e < T 0 1 + 1 := h1
    have z0 : zup (T 0) 1 (T 0 1 + 1) 0 = T 0 0 := zup_n (by decide)
    show (0 ≤ zup (T 3) (T 0 1) k e ∧ zup (T 3) (T 0 1) k e ≤ 5) ∧ (0 ≤ zup (T 4) (T 0 1) h e ∧ zup (T 4) (T 0 1) h e < zup (T 0) 1 (T 0 1 + 1) 0) ∧ (0 ≤ zup (T 5) (T 0 1) a e ∧ zup (T 5) (T 0 1) a e ≤ 9) ∧ (0 ≤ zup (T 6) (T 0 1) h e ∧ (zup (T 6) (T 0 1) h e < zup (T 0) 1 (T 0 1 + 1) 0 ∨ zup (T 6) (T 0 1) h e = 9)) ∧ (0 ≤ zup (T 7) (T 0 1) 0 e ∧ zup (T 7) (T 0 1) 0 e ≤ 9)
    by_cases q : e = T 0 1
    · rw [q, zup_s, zup_s, zup_s, zup_s, zup_s]
      omega
    · have hd := hT.d h0 (by omega)
      rw [zup_n q, zup_n q, zup_n q, zup_n q, zup_n q]
      omega
/-! dusks -/
theorem sAim_r {T : Tn} (h : IT T) {d : Int} (h0 : 0 ≤ d) (h1 : d < T 0 1) : 0 ≤ sAim T d ∧ (sAim T d < T 0 0 ∨ sAim T d = 9) := by
  have hd := h.d h0 h1
  have hL := h.L
  have hn := sNear_r T (T 6 d) hL.1 hL.2
  unfold sAim
  repeat' split
  all_goals omega
theorem sFly_r {T : Tn} (h : IT T) {d : Int} (h0 : 0 ≤ d) (h1 : d < T 0 1) : 0 ≤ sFly T d ∧ (sFly T d < T 0 0 ∨ sFly T d = 9) := by
  have := sAim_r h h0 h1
  unfold sFly
  split <;> omega
theorem sGo_a (T : Tn) (d w : Int) {a : Nat} (h : a ≠ 6) : sGo T d w a = T a := by
  unfold sGo
  split
  · rfl
  · exact up_a h
theorem sGo_IT {T : Tn} (h : IT T) {d : Int} (w : Int) (h0 : 0 ≤ d) (h1 : d < T 0 1) : IT (sGo T d w) := by
  have hf := sFly_r h h0 h1
  unfold sGo
  split
  · exact h
  · refine IT_at h ?_
    split <;> omega
def sFlyS (T : Tn) (i : Int) : Tn := it (fun d U => if U 6 d ≠ 9 ∧ U 7 d = 0 ∧ zbit (U 0 2) (U 6 d) = 1 then sGo U d (U 0 3) else U) T i
def sClipS (T : Tn) (i : Int) : Tn := it (fun d U => if 0 < U 7 d then up U 7 d (U 7 d - 1) else U) T i
def sEggS (T : Tn) (i : Int) : Tn := it (fun d U => if U 3 d = 4 ∧ U 6 d = U 4 d ∧ 1 ≤ U 5 d ∧ U 5 d ≤ 6 ∧ U 0 1 < 8 then sAdd U 0 (U 4 d) 0 else U) T i
def sAgeS (T : Tn) (i : Int) : Tn := it (fun d U => if U 5 d < 9 then up U 5 d (U 5 d + 1) else U) T i
theorem sFlyS_s (T : Tn) {i : Int} (h : 0 ≤ i) : sFlyS T (i + 1) = if sFlyS T i 6 i ≠ 9 ∧ sFlyS T i 7 i = 0 ∧ zbit (sFlyS T i 0 2) (sFlyS T i 6 i) = 1 then sGo (sFlyS T i) i (sFlyS T i 0 3) else sFlyS T i := it_s _ _ h
theorem sClipS_s (T : Tn) {i : Int} (h : 0 ≤ i) : sClipS T (i + 1) = if 0 < sClipS T i 7 i then up (sClipS T i) 7 i (sClipS T i 7 i - 1) else sClipS T i := it_s _ _ h
theorem sEggS_s (T : Tn) {i : Int} (h : 0 ≤ i) : sEggS T (i + 1) = if sEggS T i 3 i = 4 ∧ sEggS T i 6 i = sEggS T i 4 i ∧ 1 ≤ sEggS T i 5 i ∧ sEggS T i 5 i ≤ 6 ∧ sEggS T i 0 1 < 8 then sAdd (sEggS T i) 0 (sEggS T i 4 i) 0 else sEggS T i := it_s _ _ h
theorem sAgeS_s (T : Tn) {i : Int} (h : 0 ≤ i) : sAgeS T (i + 1) = if sAgeS T i 5 i < 9 then up (sAgeS T i) 5 i (sAgeS T i 5 i + 1) else sAgeS T i := it_s _ _ h
theorem sFlyS_p {T : Tn} (h : IT T) {i : Int} (h0 : 0 ≤ i) : i ≤ T 0 1 → IT (sFlyS T i) ∧ (∀ a, a ≠ 6 → sFlyS T i a = T a) ∧ ∀ j, i ≤ j → sFlyS T i 6 j = T 6 j := by
  refine it_inv (f := fun d U => if U 6 d ≠ 9 ∧ U 7 d = 0 ∧ zbit (U 0 2) (U 6 d) = 1 then sGo U d (U 0 3) else U) (a := T) (fun i U => i ≤ T 0 1 → IT U ∧ (∀ a, a ≠ 6 → U a = T a) ∧ ∀ j, i ≤ j → U 6 j = T 6 j) (fun _ => ⟨h, fun _ _ => rfl, fun _ _ => rfl⟩) (fun i U hi ih hb => ?_) i h0
  obtain ⟨a1, a2, a3⟩ := ih (by omega)
  have e : U 0 1 = T 0 1 := by rw [a2 0 (by decide)]
  split
  · refine ⟨sGo_IT a1 _ hi (by omega), fun a ha => by rw [sGo_a _ _ _ ha]; exact a2 a ha, fun j hj => ?_⟩
    unfold sGo
    split
    · exact a3 j (by omega)
    · rw [up_z (by omega)]
      exact a3 j (by omega)
  · exact ⟨a1, a2, fun j hj => a3 j (by omega)⟩
theorem sClipS_p {T : Tn} (h : IT T) {i : Int} (h0 : 0 ≤ i) : i ≤ T 0 1 → IT (sClipS T i) ∧ (∀ a, a ≠ 7 → sClipS T i a = T a) ∧ ∀ j, i ≤ j → sClipS T i 7 j = T 7 j := by
  refine it_inv (f := fun d U => if 0 < U 7 d then up U 7 d (U 7 d - 1) else U) (a := T) (fun i U => i ≤ T 0 1 → IT U ∧ (∀ a, a ≠ 7 → U a = T a) ∧ ∀ j, i ≤ j → U 7 j = T 7 j) (fun _ => ⟨h, fun _ _ => rfl, fun _ _ => rfl⟩) (fun i U hi ih hb => ?_) i h0
  obtain ⟨a1, a2, a3⟩ := ih (by omega)
  have e : U 0 1 = T 0 1 := by rw [a2 0 (by decide)]
  have hd := a1.d hi (by omega)
  split
  · refine ⟨IT_clip a1 (by omega), fun a ha => by rw [up_a ha]; exact a2 a ha, fun j hj => ?_⟩
    rw [up_z (by omega)]
    exact a3 j (by omega)
  · exact ⟨a1, a2, fun j hj => a3 j (by omega)⟩
theorem sAgeS_p {T : Tn} (h : IT T) {i : Int} (h0 : 0 ≤ i) : i ≤ T 0 1 → IT (sAgeS T i) ∧ (∀ a, a ≠ 5 → sAgeS T i a = T a) ∧ ∀ j, i ≤ j → sAgeS T i 5 j = T 5 j := by
  refine it_inv (f := fun d U => if U 5 d < 9 then up U 5 d (U 5 d + 1) else U) (a := T) (fun i U => i ≤ T 0 1 → IT U ∧ (∀ a, a ≠ 5 → U a = T a) ∧ ∀ j, i ≤ j → U 5 j = T 5 j) (fun _ => ⟨h, fun _ _ => rfl, fun _ _ => rfl⟩) (fun i U hi ih hb => ?_) i h0
  obtain ⟨a1, a2, a3⟩ := ih (by omega)
  have e : U 0 1 = T 0 1 := by rw [a2 0 (by decide)]
  have hd := a1.d hi (by omega)
  split
  · refine ⟨IT_age a1 (by omega), fun a ha => by rw [up_a ha]; exact a2 a ha, fun j hj => ?_⟩
    rw [up_z (by omega)]
    exact a3 j (by omega)
  · exact ⟨a1, a2, fun j hj => a3 j (by omega)⟩
theorem sAdd_o (T : Tn) (k h a : Int) {b : Nat} {j : Int} (hj : j ≠ T 0 1) (hb : b ≠ 0) : sAdd T k h a b j = T b j := by
  unfold sAdd
  rw [up_a hb, up_z hj, up_z hj, up_z hj, up_z hj, up_z hj]
theorem sAdd_0 (T : Tn) (k h a : Int) {j : Int} (hj : j ≠ 1) : sAdd T k h a 0 j = T 0 j := by
  unfold sAdd
  rw [up_z hj, up_a (by decide), up_a (by decide), up_a (by decide), up_a (by decide), up_a (by decide)]
theorem sAdd_1 (T : Tn) (k h a : Int) : sAdd T k h a 0 1 = T 0 1 + 1 := up_s _ _ _ _
theorem sAdd_12 (T : Tn) (k h a : Int) {b : Nat} (hb : b = 1 ∨ b = 2) : sAdd T k h a b = T b := by
  unfold sAdd
  rcases hb with rfl | rfl <;> rfl
theorem sEggS_p {T : Tn} (h : IT T) {i : Int} (h0 : 0 ≤ i) : i ≤ T 0 1 → IT (sEggS T i) ∧ T 0 1 ≤ sEggS T i 0 1 ∧ (∀ j, j ≠ 1 → sEggS T i 0 j = T 0 j) ∧ (∀ (a : Nat) j, a ≠ 0 → j < T 0 1 → sEggS T i a j = T a j) ∧ ∀ a, a = 1 ∨ a = 2 → sEggS T i a = T a := by
  refine it_inv (f := fun d U => if U 3 d = 4 ∧ U 6 d = U 4 d ∧ 1 ≤ U 5 d ∧ U 5 d ≤ 6 ∧ U 0 1 < 8 then sAdd U 0 (U 4 d) 0 else U) (a := T) (fun i U => i ≤ T 0 1 → IT U ∧ T 0 1 ≤ U 0 1 ∧ (∀ j, j ≠ 1 → U 0 j = T 0 j) ∧ (∀ (a : Nat) j, a ≠ 0 → j < T 0 1 → U a j = T a j) ∧ ∀ a, a = 1 ∨ a = 2 → U a = T a) (fun _ => ⟨h, Int.le_refl _, fun _ _ => rfl, fun _ _ _ _ => rfl, fun _ _ => rfl⟩) (fun i U hi ih hb => ?_) i h0
  obtain ⟨a1, a2, a3, a4, a5⟩ := ih (by omega)
  have hd := a1.d hi (by omega)
  split
  next q =>
    refine ⟨IT_add a1 (by omega) (by omega) (by omega) (by omega), by rw [sAdd_1]; omega, fun j hj => by rw [sAdd_0 _ _ _ _ hj]; exact a3 j hj, fun a j ha hj => by rw [sAdd_o _ _ _ _ (by omega) ha]; exact a4 a j ha hj, fun a ha => by rw [sAdd_12 _ _ _ _ ha]; exact a5 a ha⟩
  next q => exact ⟨a1, a2, a3, a4, a5⟩
theorem sAdd_m (U : Tn) (k h a : Int) : up (up (up (up (up (up U 0 1 (U 0 1 + 1)) 3 (U 0 1) k) 4 (U 0 1) h) 5 (U 0 1) a) 6 (U 0 1) h) 7 (U 0 1) 0 = sAdd U k h a := by
  unfold sAdd
  rw [up_comm U (a := 0) (a2 := 3) _ _ (Or.inl (by decide)), up_comm _ (a := 0) (a2 := 4) _ _ (Or.inl (by decide)), up_comm _ (a := 0) (a2 := 5) _ _ (Or.inl (by decide)), up_comm _ (a := 0) (a2 := 6) _ _ (Or.inl (by decide)), up_comm _ (a := 0) (a2 := 7) _ _ (Or.inl (by decide))]
/-- a dusk -/
def sD2 (T : Tn) : Tn := sClipS (sFlyS T (T 0 1)) (T 0 1)
def sD3 (T : Tn) : Tn := if T 0 4 % 3 = 0 then sEggS (sD2 T) (T 0 1) else sD2 T
def sD4 (T : Tn) : Tn := if T 0 4 % 5 = 0 then sAgeS (sD3 T) (T 0 1) else sD3 T
def sDusk (T : Tn) : Tn := up (sD4 T) 0 4 (T 0 4 + 1)
theorem sD2_p {T : Tn} (h : IT T) : IT (sD2 T) ∧ sD2 T 0 = T 0 ∧ sD2 T 1 = T 1 ∧ sD2 T 2 = T 2 := by
  have hD := h.D
  obtain ⟨a1, a2, -⟩ := sFlyS_p h hD.1 (Int.le_refl _)
  have e0 : sFlyS T (T 0 1) 0 1 = T 0 1 := by rw [a2 0 (by decide)]
  obtain ⟨b1, b2, -⟩ := sClipS_p a1 (i := T 0 1) hD.1 (by omega)
  unfold sD2
  exact ⟨b1, by rw [b2 0 (by decide), a2 0 (by decide)], by rw [b2 1 (by decide), a2 1 (by decide)], by rw [b2 2 (by decide), a2 2 (by decide)]⟩
theorem sD3_p {T : Tn} (h : IT T) : IT (sD3 T) ∧ T 0 1 ≤ sD3 T 0 1 ∧ (∀ j, j ≠ 1 → sD3 T 0 j = T 0 j) ∧ sD3 T 1 = T 1 ∧ sD3 T 2 = T 2 := by
  obtain ⟨a1, a2, a3, a4⟩ := sD2_p h
  have hD := h.D
  have e : sD2 T 0 1 = T 0 1 := by rw [a2]
  obtain ⟨b1, b2, b3, -, b5⟩ := sEggS_p a1 (i := T 0 1) hD.1 (by omega)
  unfold sD3
  split
  · exact ⟨b1, by omega, fun j hj => by rw [b3 j hj, a2], by rw [b5 1 (Or.inl rfl), a3], by rw [b5 2 (Or.inr rfl), a4]⟩
  · exact ⟨a1, by omega, fun j hj => by rw [a2], a3, a4⟩
def sAgeC (T : Tn) (i : Int) : Tn := if T 0 4 % 5 = 0 then sAgeS (sD3 T) i else sD3 T
theorem sAgeC_p {T : Tn} (h : IT T) {i : Int} (h0 : 0 ≤ i) (h1 : i ≤ T 0 1) : IT (sAgeC T i) ∧ T 0 1 ≤ sAgeC T i 0 1 ∧ ∀ j, j ≠ 1 → sAgeC T i 0 j = T 0 j := by
  obtain ⟨a1, a2, a3, a4, a5⟩ := sD3_p h
  obtain ⟨b1, b2, -⟩ := sAgeS_p a1 h0 (by omega)
  unfold sAgeC
  split
  · exact ⟨b1, by rw [b2 0 (by decide)]; exact a2, fun j hj => by rw [b2 0 (by decide)]; exact a3 j hj⟩
  · exact ⟨a1, a2, a3⟩
theorem sAgeC_s (T : Tn) {i : Int} (h0 : 0 ≤ i) : sAgeC T (i + 1) = if T 0 4 % 5 = 0 ∧ sAgeC T i 5 i < 9 then up (sAgeC T i) 5 i (sAgeC T i 5 i + 1) else sAgeC T i := by
  unfold sAgeC
  by_cases h : T 0 4 % 5 = 0
  · rw [if_pos h, if_pos h, sAgeS_s _ h0]
    by_cases h2 : sAgeS (sD3 T) i 5 i < 9
    · rw [if_pos h2, if_pos ⟨h, h2⟩]
    · rw [if_neg h2, if_neg (fun q => h2 q.2)]
  · rw [if_neg h, if_neg h, if_neg (fun q => h q.1)]
theorem sD4_p {T : Tn} (h : IT T) : IT (sD4 T) ∧ T 0 1 ≤ sD4 T 0 1 ∧ (∀ j, j ≠ 1 → sD4 T 0 j = T 0 j) ∧ sD4 T 1 = T 1 ∧ sD4 T 2 = T 2 := by
  obtain ⟨a1, a2, a3, a4, a5⟩ := sD3_p h
  have hD := h.D
  obtain ⟨b1, b2, -⟩ := sAgeS_p a1 (i := T 0 1) hD.1 a2
  unfold sD4
  split
  · exact ⟨b1, by rw [b2 0 (by decide)]; exact a2, fun j hj => by rw [b2 0 (by decide)]; exact a3 j hj, by rw [b2 1 (by decide), a4], by rw [b2 2 (by decide), a5]⟩
  · exact ⟨a1, a2, a3, a4, a5⟩
theorem sDusk_p {T : Tn} (h : IT T) (hk : T 0 4 < 1100) : IT (sDusk T) ∧ T 0 1 ≤ sDusk T 0 1 ∧ sDusk T 0 0 = T 0 0 ∧ sDusk T 0 2 = T 0 2 ∧ sDusk T 0 3 = T 0 3 ∧ sDusk T 0 4 = T 0 4 + 1 ∧ sDusk T 1 = T 1 ∧ sDusk T 2 = T 2 := by
  obtain ⟨a1, a2, a3, a4, a5⟩ := sD4_p h
  have h4 := h.k
  unfold sDusk
  refine ⟨IT_dusk a1 (by omega), ?_, ?_, ?_, ?_, up_s _ _ _ _, a4, a5⟩
  · rw [up_z (by decide)]; exact a2
  · rw [up_z (by decide)]; exact a3 0 (by decide)
  · rw [up_z (by decide)]; exact a3 2 (by decide)
  · rw [up_z (by decide)]; exact a3 3 (by decide)
def sDusks (T : Tn) (n : Int) : Tn := it (fun _ U => sDusk U) T n
theorem sDusks_s (T : Tn) {i : Int} (h : 0 ≤ i) : sDusks T (i + 1) = sDusk (sDusks T i) := it_s _ _ h
theorem sDusks_p {T : Tn} (h : IT T) {n : Int} (h0 : 0 ≤ n) : T 0 4 + n ≤ 1100 → IT (sDusks T n) ∧ T 0 1 ≤ sDusks T n 0 1 ∧ sDusks T n 0 0 = T 0 0 ∧ sDusks T n 0 2 = T 0 2 ∧ sDusks T n 0 3 = T 0 3 ∧ sDusks T n 0 4 = T 0 4 + n ∧ sDusks T n 1 = T 1 ∧ sDusks T n 2 = T 2 := by
  refine it_inv (f := fun _ U => sDusk U) (a := T) (fun n U => T 0 4 + n ≤ 1100 → IT U ∧ T 0 1 ≤ U 0 1 ∧ U 0 0 = T 0 0 ∧ U 0 2 = T 0 2 ∧ U 0 3 = T 0 3 ∧ U 0 4 = T 0 4 + n ∧ U 1 = T 1 ∧ U 2 = T 2) (fun _ => ⟨h, Int.le_refl _, rfl, rfl, rfl, (Int.add_zero _).symm, rfl, rfl⟩) (fun n U hn ih hb => ?_) n h0
  obtain ⟨a1, a2, a3, a4, a5, a6, a7, a8⟩ := ih (by omega)
  obtain ⟨b1, b2, b3, b4, b5, b6, b7, b8⟩ := sDusk_p a1 (by omega)
  exact ⟨b1, by omega, by omega, by omega, by omega, by omega, by rw [b7, a7], by rw [b8, a8]⟩
