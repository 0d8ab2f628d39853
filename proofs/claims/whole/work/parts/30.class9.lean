theorem sDusk_d {T : Tn} (h : IT T) {d : Int} (hd : 0 ≤ d ∧ d < T 0 1) : sDusk T 3 d = T 3 d ∧ sDusk T 4 d = T 4 d ∧ sDusk T 5 d = (if T 0 4 % 5 = 0 then (if T 5 d < 9 then T 5 d + 1 else T 5 d) else T 5 d) ∧ sDusk T 6 d = sFl T d ∧ sDusk T 7 d = (if 0 < T 7 d then T 7 d - 1 else T 7 d) := by
  have hD := h.D
  obtain ⟨a1, a2, -⟩ := sFlyS_p h hD.1 (Int.le_refl _)
  have a6 := sFlyS_d h hd (T 0 1).toNat (by omega)
  rw [show ((T 0 1).toNat : Int) = T 0 1 by omega, if_pos hd.2] at a6
  have ed : sFlyS T (T 0 1) 0 1 = T 0 1 := by rw [a2 0 (by decide)]
  obtain ⟨b1, b2, -⟩ := sClipS_p a1 (i := T 0 1) hD.1 (by omega)
  have b7 := sClipS_d (T := sFlyS T (T 0 1)) hd.1 (T 0 1).toNat
  rw [show ((T 0 1).toNat : Int) = T 0 1 by omega, if_pos hd.2, a2 7 (by decide)] at b7
  have b2 : ∀ a, a ≠ 7 → sD2 T a = sFlyS T (T 0 1) a := b2
  have b7 : sD2 T 7 d = (if 0 < T 7 d then T 7 d - 1 else T 7 d) := b7
  have b1 : IT (sD2 T) := b1
  have e2 : sD2 T 0 1 = T 0 1 := by rw [b2 0 (by decide), ed]
  have e3 : ∀ a, a ≠ 0 → sD3 T a d = sD2 T a d := by
    intro a ha
    unfold sD3
    by_cases q : T 0 4 % 3 = 0
    · rw [if_pos q]
      exact (sEggS_p b1 (i := T 0 1) hD.1 (by omega)).2.2.2.1 a d ha (by omega)
    · rw [if_neg q]
  obtain ⟨c1, c2, -⟩ := sD3_p h
  have e4 : ∀ a, a ≠ 5 → sD4 T a = sD3 T a := by
    intro a ha
    unfold sD4
    by_cases q : T 0 4 % 5 = 0
    · rw [if_pos q]
      exact (sAgeS_p c1 (i := T 0 1) hD.1 (by omega)).2.1 a ha
    · rw [if_neg q]
  have e45 : sD4 T 5 d = (if T 0 4 % 5 = 0 then (if sD3 T 5 d < 9 then sD3 T 5 d + 1 else sD3 T 5 d) else sD3 T 5 d) := by
    unfold sD4
    by_cases q : T 0 4 % 5 = 0
    · rw [if_pos q, if_pos q]
      have := sAgeS_d (T := sD3 T) hd.1 (T 0 1).toNat
      rw [show ((T 0 1).toNat : Int) = T 0 1 by omega, if_pos hd.2] at this
      exact this
    · rw [if_neg q, if_neg q]
  have e5 : ∀ a, a ≠ 0 → sDusk T a = sD4 T a := fun a ha => up_a ha
  refine ⟨?_, ?_, ?_, ?_, ?_⟩
  · rw [e5 3 (by decide), e4 3 (by decide), e3 3 (by decide), b2 3 (by decide), a2 3 (by decide)]
  · rw [e5 4 (by decide), e4 4 (by decide), e3 4 (by decide), b2 4 (by decide), a2 4 (by decide)]
  · rw [e5 5 (by decide), e45, e3 5 (by decide), b2 5 (by decide), a2 5 (by decide)]
  · rw [e5 6 (by decide), e4 6 (by decide), e3 6 (by decide), b2 6 (by decide), a6]
  · rw [e5 7 (by decide), e4 7 (by decide), e3 7 (by decide), b7]
theorem sSd_dusk {U V : Tn} {d : Int} (hU : IT U) (hV : IT V) (hkU : U 0 4 < 1100) (hkV : V 0 4 < 1100) (hdU : 0 ≤ d ∧ d < U 0 1) (hdV : 0 ≤ d ∧ d < V 0 1) (h : sSd U V d) : sSd (sDusk U) (sDusk V) d := by
  have hf := sFl_cg h
  obtain ⟨⟨a0, a2, a3, a4⟩, ⟨b1, b2⟩, c3, c4, c5, c6, c7⟩ := h
  obtain ⟨-, -, u0, u2, u3, u4, u5, u6⟩ := sDusk_p hU hkU
  obtain ⟨-, -, v0, v2, v3, v4, v5, v6⟩ := sDusk_p hV hkV
  obtain ⟨p3, p4, p5, p6, p7⟩ := sDusk_d hU hdU
  obtain ⟨q3, q4, q5, q6, q7⟩ := sDusk_d hV hdV
  refine ⟨⟨by omega, by omega, by omega, by omega⟩, ⟨by rw [u5, v5, b1], by rw [u6, v6, b2]⟩, by omega, by omega, ?_, by rw [p6, q6, hf], ?_⟩
  · rw [p5, q5, a4, c5]
  · rw [p7, q7, c7]
theorem sSd_dusks {U V : Tn} {d : Int} (hU : IT U) (hV : IT V) (hdU : 0 ≤ d ∧ d < U 0 1) (hdV : 0 ≤ d ∧ d < V 0 1) (h : sSd U V d) : ∀ n : Nat, U 0 4 + n ≤ 1100 → sSd (sDusks U n) (sDusks V n) d := by
  intro n
  induction n with
  | zero => intro _; exact h
  | succ n ih =>
    intro hb
    have e4 := h.1.2.2.2
    obtain ⟨u1, u2, -, -, -, u6, -⟩ := sDusks_p hU (n := n) (by omega) (by omega)
    obtain ⟨v1, v2, -, -, -, v6, -⟩ := sDusks_p hV (n := n) (by omega) (by omega)
    rw [show ((n + 1 : Nat) : Int) = (n : Int) + 1 by omega, sDusks_s U (by omega), sDusks_s V (by omega)]
    exact sSd_dusk u1 v1 (by omega) (by omega) (by omega) (by omega) (ih (by omega))
theorem sVal_cg {U V : Tn} {d : Int} (h3 : U 3 d = V 3 d) (h5 : U 5 d = V 5 d) : sVal U d = sVal V d := by
  unfold sVal
  rw [h3, h5]
theorem sPutS_d (T : Tn) (s q : Int) {d : Int} (hd : 0 ≤ d) : ∀ n : Nat, sPutS T s q n 6 d = if d < n ∧ zbit s d = 1 then q else T 6 d := by
  intro n
  induction n with
  | zero =>
    rw [if_neg (by omega)]
    rfl
  | succ n ih =>
    rw [show ((n + 1 : Nat) : Int) = (n : Int) + 1 by omega, sPutS_s T s q (by omega)]
    by_cases e : (n : Int) = d
    · subst e
      by_cases c : zbit s n = 1
      · rw [if_pos c, up_s, if_pos ⟨by omega, c⟩]
      · rw [if_neg c, ih, if_neg (by omega), if_neg (fun z => c z.2)]
    · have hs : (if zbit s n = 1 then up (sPutS T s q n) 6 n q else sPutS T s q n) 6 d = sPutS T s q n 6 d := by
        split
        · exact up_z (fun z => e z.symm)
        · rfl
      rw [hs, ih]
      by_cases c : d < n ∧ zbit s d = 1
      · rw [if_pos c, if_pos (show d < (n : Int) + 1 ∧ zbit s d = 1 from ⟨by omega, c.2⟩)]
      · rw [if_neg c, if_neg (fun (z : d < (n : Int) + 1 ∧ zbit s d = 1) => c ⟨by omega, z.2⟩)]

