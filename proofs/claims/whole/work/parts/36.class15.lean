theorem sSum_add (f g : Int → Int) {k : Int} : ∀ n : Nat, (n : Int) ≤ k → sSum (fun j => f j + g j) n = sSum f n + sSum g n := by
  intro n
  induction n with
  | zero => intro _; rfl
  | succ n ih =>
    intro hb
    have h1 := ih (by omega)
    rw [show ((n + 1 : Nat) : Int) = (n : Int) + 1 by omega, sSum_s _ (by omega), sSum_s f (by omega), sSum_s g (by omega), h1]
    omega
theorem sLed_is {T : Tn} (hD : 0 ≤ T 0 1) (v p : Int) : ∀ n : Nat, sSum (fun d => if 0 ≤ T 6 d ∧ T 6 d < n ∧ sComp T v (T 6 d) = p then sVal T d else 0) (T 0 1) = sLed T v p n := by
  intro n
  induction n with
  | zero =>
    have := sSum_app (g := fun d => if 0 ≤ T 6 d ∧ T 6 d < ((0 : Nat) : Int) ∧ sComp T v (T 6 d) = p then sVal T d else 0) (D := 0) (D' := T 0 1) (by omega) hD (fun j _ _ => if_neg (by omega))
    rw [this]
    rfl
  | succ n ih =>
    rw [show ((n + 1 : Nat) : Int) = (n : Int) + 1 by omega, sLed_s T v p (by omega), ← ih]
    by_cases e : sComp T v n = p
    · rw [if_pos e]
      unfold sPurse
      have h := sSum_add (fun d => if 0 ≤ T 6 d ∧ T 6 d < n ∧ sComp T v (T 6 d) = p then sVal T d else 0) (fun d => if T 6 d = n then sVal T d else 0) (T 0 1).toNat (Int.le_refl _)
      rw [show ((T 0 1).toNat : Int) = T 0 1 by omega] at h
      rw [← h]
      refine sSum_cg (fun d h0 h1 => ?_)
      by_cases q : T 6 d = n
      · rw [if_pos q, if_neg (show ¬ (0 ≤ T 6 d ∧ T 6 d < (n : Int) ∧ sComp T v (T 6 d) = p) by omega), if_pos (show 0 ≤ T 6 d ∧ T 6 d < (n : Int) + 1 ∧ sComp T v (T 6 d) = p from ⟨by omega, by omega, by rw [q]; exact e⟩)]
        omega
      · rw [if_neg q]
        by_cases q2 : 0 ≤ T 6 d ∧ T 6 d < (n : Int) ∧ sComp T v (T 6 d) = p
        · rw [if_pos q2, if_pos (show 0 ≤ T 6 d ∧ T 6 d < (n : Int) + 1 ∧ sComp T v (T 6 d) = p from ⟨q2.1, by omega, q2.2.2⟩)]
          omega
        · rw [if_neg q2, if_neg (fun z : 0 ≤ T 6 d ∧ T 6 d < (n : Int) + 1 ∧ sComp T v (T 6 d) = p => q2 ⟨z.1, by omega, z.2.2⟩)]
          rfl
    · rw [if_neg e, Int.add_zero]
      refine sSum_cg (fun d h0 h1 => ?_)
      by_cases q : T 6 d = n
      · rw [if_neg (show ¬ (0 ≤ T 6 d ∧ T 6 d < (n : Int) ∧ sComp T v (T 6 d) = p) by omega), if_neg (fun z : 0 ≤ T 6 d ∧ T 6 d < (n : Int) + 1 ∧ sComp T v (T 6 d) = p => e (by rw [← q]; exact z.2.2))]
      · by_cases q2 : 0 ≤ T 6 d ∧ T 6 d < (n : Int) ∧ sComp T v (T 6 d) = p
        · rw [if_pos q2, if_pos (show 0 ≤ T 6 d ∧ T 6 d < (n : Int) + 1 ∧ sComp T v (T 6 d) = p from ⟨q2.1, by omega, q2.2.2⟩)]
        · rw [if_neg q2, if_neg (fun z : 0 ≤ T 6 d ∧ T 6 d < (n : Int) + 1 ∧ sComp T v (T 6 d) = p => q2 ⟨z.1, by omega, z.2.2⟩)]
theorem sLm_is {T : Tn} (hI : IT T) {v p s : Int} (h : sLm T v p (T 0 0) s) : sWorth T s (T 0 1) = sLed T v p (T 0 0) := by
  have hL := hI.L
  have hl := sLed_is hI.D.1 v p (T 0 0).toNat
  rw [show ((T 0 0).toNat : Int) = T 0 0 by omega] at hl
  rw [← hl]
  unfold sWorth
  refine sSum_cg (fun d h0 h1 => ?_)
  have hd := h.2 d h0 h1
  by_cases e : zbit s d = 1
  · rw [if_pos e, if_pos (hd.mp e)]
  · rw [if_neg e, if_neg (fun z => e (hd.mpr z))]

