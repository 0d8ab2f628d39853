/-! class and reference side by side -/
def Rl (X S R P T : Tn) : Prop := X 0 0 = R 0 3 ∧ X 0 1 = R 0 0 ∧ X 1 = R 8 ∧ (∀ j, 1 ≤ j → j ≤ 6 → X 4 j = R 1 j) ∧ S 0 0 = R 0 1 ∧ S 1 = R 6 ∧ (R 0 0 = 1 → R 3 = flat P ∧ IT P ∧ P 0 4 ≤ 999) ∧ (IT T ∧ T 0 4 ≤ 999) ∧ IR R
section
variable {X S R P T X1 S1 R1 P1 T1 : Tn} {q : Int}
theorem Rl.x0 (h : Rl X S R P T) : X 0 0 = R 0 3 := h.1
theorem Rl.x1 (h : Rl X S R P T) : X 0 1 = R 0 0 := h.2.1
theorem Rl.row (h : Rl X S R P T) : X 1 = R 8 := h.2.2.1
theorem Rl.ref (h : Rl X S R P T) {j : Int} (h1 : 1 ≤ j) (h2 : j ≤ 6) : X 4 j = R 1 j := h.2.2.2.1 j h1 h2
theorem Rl.s0 (h : Rl X S R P T) : S 0 0 = R 0 1 := h.2.2.2.2.1
theorem Rl.s1 (h : Rl X S R P T) : S 1 = R 6 := h.2.2.2.2.2.1
theorem Rl.p (h : Rl X S R P T) (e : R 0 0 = 1) : R 3 = flat P ∧ IT P ∧ P 0 4 ≤ 999 := h.2.2.2.2.2.2.1 e
theorem Rl.it (h : Rl X S R P T) : IT T := h.2.2.2.2.2.2.2.1.1
theorem Rl.k (h : Rl X S R P T) : T 0 4 ≤ 999 := h.2.2.2.2.2.2.2.1.2
theorem Rl.ir (h : Rl X S R P T) : IR R := h.2.2.2.2.2.2.2.2
theorem Rl.ix (h : Rl X S R P T) : IX X S := by
  obtain ⟨a1, a2, a3, a4, a5⟩ := h.ir
  refine ⟨?_, ?_, ?_, fun j => ?_, fun j => ?_⟩
  · rw [h.x1]; exact a1
  · rw [h.s0]; exact a2
  · rw [h.x0]; exact a3
  · rw [h.s1]; exact a4 j
  · rw [h.row]; exact a5 j
/-- another town -/
theorem Rl.to (h : Rl X S R P T) (h1 : IT T1) (h2 : T1 0 4 ≤ 999) : Rl X S R P T1 := ⟨h.1, h.2.1, h.2.2.1, h.2.2.2.1, h.2.2.2.2.1, h.2.2.2.2.2.1, h.2.2.2.2.2.2.1, ⟨h1, h2⟩, h.2.2.2.2.2.2.2.2⟩
theorem rl_ref (hq : -6 ≤ q ∧ q ≤ -1) (h : Rl X S R P T) : Rl (xrf X q) S (rfs R q) P T := by
  refine ⟨h.1, h.2.1, h.2.2.1, fun j h1 h2 => ?_, h.2.2.2.2.1, h.2.2.2.2.2.1, h.2.2.2.2.2.2.1, h.2.2.2.2.2.2.2.1, h.2.2.2.2.2.2.2.2⟩
  show zup (X 4) (-q) (X 4 (-q) + 1) j = zup (R 1) (-q) (R 1 (-q) + 1) j
  by_cases e : j = -q
  · rw [e, zup_s, zup_s, h.ref (by omega) (by omega)]
  · rw [zup_n e, zup_n e, h.ref h1 h2]
theorem rl_zif (hq : q = 0 ∨ (-6 ≤ q ∧ q ≤ -1)) (h : Rl X S R P T) (h1 : q = 0 → Rl X1 S1 R1 P1 T1) : Rl (zif q X1 (xrf X q)) (zif q S1 S) (zif q R1 (rfs R q)) (zif q P1 P) (zif q T1 T) := by
  unfold zif
  by_cases e : q = 0
  · rw [if_pos e, if_pos e, if_pos e, if_pos e, if_pos e]
    exact h1 e
  · rw [if_neg e, if_neg e, if_neg e, if_neg e, if_neg e]
    exact rl_ref (by omega) h
theorem rl_plain (hq : q = 0 ∨ (-6 ≤ q ∧ q ≤ -1)) (h : Rl X S R P T) (h1 : q = 0 → Rl X1 S R1 P T) : Rl (zif q X1 (xrf X q)) S (zif q R1 (rfs R q)) P T := by
  unfold zif
  by_cases e : q = 0
  · rw [if_pos e, if_pos e]
    exact h1 e
  · rw [if_neg e, if_neg e]
    exact rl_ref (by omega) h
theorem rl_up {F2 F3 : Int → Int} (h : Rl X S R P T) : Rl (up1 (up1 X 2 F2) 3 F3) S R P T := ⟨h.1, h.2.1, h.2.2.1, h.2.2.2.1, h.2.2.2.2.1, h.2.2.2.2.2.1, h.2.2.2.2.2.2.1, h.2.2.2.2.2.2.2.1, h.2.2.2.2.2.2.2.2⟩
theorem rl_r5 {F : Int → Int} (h : Rl X S R P T) : Rl X S (up1 R 5 F) P T := ⟨h.1, h.2.1, h.2.2.1, h.2.2.2.1, h.2.2.2.2.1, h.2.2.2.2.2.1, h.2.2.2.2.2.2.1, h.2.2.2.2.2.2.2.1, h.2.2.2.2.2.2.2.2⟩
theorem zif_same {α : Type} (q : Int) (x : α) : zif q x x = x := by
  unfold zif
  split <;> rfl
end
theorem qr_out (v lo hi : Int) : sOut v lo hi = 0 ∨ (-6 ≤ sOut v lo hi ∧ sOut v lo hi ≤ -1) := by
  unfold sOut
  (repeat' split) <;> omega
theorem qr_letter (c n : Int) : q_letter c n = 0 ∨ (-6 ≤ q_letter c n ∧ q_letter c n ≤ -1) := by
  unfold q_letter
  (repeat' split) <;> first | omega | exact qr_out _ _ _
theorem qr_row (c n : Int) : q_row c n = 0 ∨ (-6 ≤ q_row c n ∧ q_row c n ≤ -1) := by
  unfold q_row
  (repeat' split) <;> first | omega | exact qr_out _ _ _
theorem qr_loft (T : Tn) (z w : Int) : q_loft T z w = 0 ∨ (-6 ≤ q_loft T z w ∧ q_loft T z w ≤ -1) := by
  unfold q_loft
  (repeat' split) <;> omega
theorem qr_dove (T : Tn) (z w : Int) : q_dove T z w = 0 ∨ (-6 ≤ q_dove T z w ∧ q_dove T z w ≤ -1) := by
  unfold q_dove
  (repeat' split) <;> omega
theorem qr_open (T : Tn) (z w : Int) : q_open T z w = 0 ∨ (-6 ≤ q_open T z w ∧ q_open T z w ≤ -1) := by
  unfold q_open
  (repeat' split) <;> omega
theorem qr_carry (T : Tn) (z w : Int) : q_carry T z w = 0 ∨ (-6 ≤ q_carry T z w ∧ q_carry T z w ≤ -1) := by
  unfold q_carry
  (repeat' split) <;> omega
theorem qr_clip (T : Tn) (z w : Int) : q_clip T z w = 0 ∨ (-6 ≤ q_clip T z w ∧ q_clip T z w ≤ -1) := by
  unfold q_clip
  (repeat' split) <;> first | omega | exact qr_out _ _ _
theorem qr_go (T : Tn) (z : Int) : q_go T z = 0 ∨ (-6 ≤ q_go T z ∧ q_go T z ≤ -1) := by
  unfold q_go
  (repeat' split) <;> omega
theorem qr_dusk (T : Tn) : q_dusk T = 0 ∨ (-6 ≤ q_dusk T ∧ q_dusk T ≤ -1) := by
  unfold q_dusk
  (repeat' split) <;> omega
theorem qr_way (T : Tn) (z w : Int) : q_way T z w = 0 ∨ (-6 ≤ q_way T z w ∧ q_way T z w ≤ -1) := by
  unfold q_way
  (repeat' split) <;> omega
theorem qr_lo (T : Tn) (z m lo hi : Int) : q_lo T z m lo hi = 0 ∨ (-6 ≤ q_lo T z m lo hi ∧ q_lo T z m lo hi ≤ -1) := by
  unfold q_lo
  (repeat' split) <;> first | omega | exact qr_out _ _ _
theorem qr_dov (T : Tn) (z : Int) : q_dov T z = 0 ∨ (-6 ≤ q_dov T z ∧ q_dov T z ≤ -1) := by
  unfold q_dov
  (repeat' split) <;> omega
theorem qr_paid (T : Tn) (z w : Int) : q_paid T z w = 0 ∨ (-6 ≤ q_paid T z w ∧ q_paid T z w ≤ -1) := by
  unfold q_paid
  (repeat' split) <;> omega
theorem qr_stays (T : Tn) (s q n : Int) : q_stays T s q n = 0 ∨ (-6 ≤ q_stays T s q n ∧ q_stays T s q n ≤ -1) := by
  unfold q_stays
  (repeat' split) <;> first | omega | exact qr_out _ _ _
theorem qr_cheap (T : Tn) (f t m n : Int) : q_cheap T f t m n = 0 ∨ (-6 ≤ q_cheap T f t m n ∧ q_cheap T f t m n ≤ -1) := by
  unfold q_cheap
  (repeat' split) <;> omega
theorem qr_near (v w : Int) : q_near v w = 0 ∨ (-6 ≤ q_near v w ∧ q_near v w ≤ -1) := by
  unfold q_near
  (repeat' split) <;> first | omega | exact qr_out _ _ _
theorem qr_on (z : Int) : (if z = 0 then (-3 : Int) else 0) = 0 ∨ (-6 ≤ (if z = 0 then (-3 : Int) else 0) ∧ (if z = 0 then (-3 : Int) else 0) ≤ -1) := by
  split <;> omega
/-! what a call makes of the town -/
theorem sSet_0 : ∀ L : Nat, L < 7 → ∀ s : Nat, s < 64 → ∀ z : Nat, z < L → (s : Int) < zp2 (L : Int) → 0 ≤ sSet (s : Int) (z : Int) 0 ∧ sSet (s : Int) (z : Int) 0 < zp2 (L : Int) := by decide +kernel
theorem sSet_1 : ∀ L : Nat, L < 7 → ∀ s : Nat, s < 64 → ∀ z : Nat, z < L → (s : Int) < zp2 (L : Int) → 0 ≤ sSet (s : Int) (z : Int) 1 ∧ sSet (s : Int) (z : Int) 1 < zp2 (L : Int) := by decide +kernel
section
variable {X S R P T : Tn} {z d v : Int}
theorem to_open (h : IT T) {i : Int} (hq : q_open T z i = 0) : IT (up T 0 2 (sSet (T 0 2) z i)) := by
  have hL := h.L
  have ho := h.o
  have hz := zp2_le6 hL
  unfold q_open at hq
  have h1 : 0 ≤ z ∧ z < T 0 0 := by
    refine Classical.byContradiction (fun e => ?_)
    rw [if_neg e] at hq
    omega
  rw [if_pos h1] at hq
  have h2 : 0 ≤ i ∧ i < 2 := by
    refine Classical.byContradiction (fun e => ?_)
    rw [if_neg e] at hq
    omega
  have h3 := sSet_0 (T 0 0).toNat (by omega) (T 0 2).toNat (by omega) z.toNat (by omega)
  have h4 := sSet_1 (T 0 0).toNat (by omega) (T 0 2).toNat (by omega) z.toNat (by omega)
  rw [show ((T 0 0).toNat : Int) = T 0 0 by omega, show ((T 0 2).toNat : Int) = T 0 2 by omega, show (z.toNat : Int) = z by omega] at h3 h4
  rcases (show i = 0 ∨ i = 1 by omega) with rfl | rfl
  · exact IT_open h (h3 ho.2)
  · exact IT_open h (h4 ho.2)
theorem out_0 {lo hi : Int} (h : sOut v lo hi = 0) : lo ≤ v ∧ v ≤ hi := by
  unfold sOut at h
  by_cases e : v < lo
  · rw [if_pos e] at h
    omega
  · rw [if_neg e] at h
    by_cases e2 : hi < v
    · rw [if_pos e2] at h
      omega
    · omega
theorem to_carry (h : IT T) (hq : q_carry T d z = 0) : IT (up T 6 d z) := by
  unfold q_carry at hq
  by_cases e : (0 ≤ d ∧ d < T 0 1) ∧ (0 ≤ z ∧ z < T 0 0)
  · exact IT_at h (by omega)
  · rw [if_neg e] at hq
    omega
theorem to_clip (h : IT T) (hq : q_clip T d z = 0) : IT (up T 7 d z) := by
  unfold q_clip at hq
  by_cases e : 0 ≤ d ∧ d < T 0 1
  · rw [if_pos e] at hq
    exact IT_clip h (out_0 hq)
  · rw [if_neg e] at hq
    omega
theorem to_go (h : IT T) (hq : q_go T d = 0) : IT (sGo T d 99) ∧ sGo T d 99 0 4 = T 0 4 := by
  unfold q_go at hq
  by_cases e : 0 ≤ d ∧ d < T 0 1
  · exact ⟨sGo_IT h 99 e.1 e.2, by rw [sGo_a T d 99 (by decide)]⟩
  · rw [if_neg e] at hq
    omega
theorem to_dusk (h : IT T) (hk : T 0 4 ≤ 999) (hq : q_dusk T = 0) : IT (sDusk T) ∧ sDusk T 0 4 ≤ 999 := by
  unfold q_dusk at hq
  by_cases e : T 0 4 = 999
  · rw [if_pos e] at hq
    omega
  · obtain ⟨a, -, -, -, -, b, -⟩ := sDusk_p h (by omega)
    exact ⟨a, by omega⟩
theorem sG_IT {L : Int → Int} {n : Int} (hLs : ∀ j, 0 ≤ L j) : ∀ (k : Nat) (p : Int) (U : Tn), 0 ≤ p → (p < n → ∃ m, 0 ≤ sF L n m p ∧ 64 ≤ p + m) → n ≤ 64 → IT U → IT (sG L n k p U).2 ∧ (sG L n k p U).2 0 4 = U 0 4 := by
  intro k
  induction k with
  | zero =>
    intro p U _ _ _ hU
    exact ⟨hU, rfl⟩
  | succ k ih =>
    intro p U h0 hfit hn hU
    rw [sG_s]
    by_cases e : p < n
    · rw [if_pos e]
      obtain ⟨m, hm1, hm2⟩ := hfit e
      obtain ⟨m, rfl⟩ : ∃ k, m = k + 1 := ⟨m - 1, by omega⟩
      have hsm := sF_s L n m p
      have hE : 0 ≤ sE L n p := by
        by_cases e : sE L n p < 0
        · rw [if_pos e] at hsm; omega
        · omega
      have hr := sE_r h0 hLs hE
      by_cases e2 : zc (sOk L n p U) = 1
      · rw [if_pos e2]
        have h1 := ih (sE L n p) (sTo L n p U) (by omega) (fun q => ⟨m, by rw [if_neg (by omega), if_neg (by omega)] at hsm; omega, by omega⟩) hn (IT_to hU (sE_nm h0 hE) e2)
        exact ⟨h1.1, h1.2.trans sTo_4⟩
      · rw [if_neg e2]
        exact ⟨hU, rfl⟩
    · rw [if_neg e]
      exact ⟨hU, rfl⟩
theorem to_town {L : Int → Int} {n : Int} (hLs : ∀ j, 0 ≤ L j) (hn : n ≤ 64) (h : IT T) : IT (t_town L n T) ∧ t_town L n T 0 4 = T 0 4 := by
  unfold t_town
  by_cases e : sF L n 64 0 < 0
  · rw [if_pos e]
    exact ⟨h, rfl⟩
  · rw [if_neg e]
    by_cases e2 : (sG L n 65 0 T).1 < 0
    · rw [if_pos e2]
      exact ⟨h, rfl⟩
    · rw [if_neg e2]
      exact sG_IT hLs 65 0 T (by omega) (fun _ => ⟨64, by omega, by omega⟩) hn h
theorem rl_letter {c : Int} (h : Rl X S R P T) (hq : q_letter c (R 0 1) = 0) : Rl X (up (up S 1 (R 0 1) c) 0 0 (R 0 1 + 1)) (up (up R 6 (R 0 1) c) 0 1 (R 0 1 + 1)) P T := by
  obtain ⟨a1, a2, a3, a4, a5⟩ := h.ir
  unfold q_letter at hq
  have hc : 0 ≤ c ∧ c ≤ 255 ∧ R 0 1 ≠ 64 := by
    by_cases e : sOut c 0 255 = 0
    · rw [if_pos e] at hq
      have := out_0 e
      refine ⟨this.1, this.2, fun e2 => ?_⟩
      rw [if_pos e2] at hq
      omega
    · rw [if_neg e] at hq
      exact absurd hq e
  refine ⟨h.1, h.2.1, h.2.2.1, h.2.2.2.1, rfl, ?_, h.2.2.2.2.2.2.1, h.2.2.2.2.2.2.2.1, a1, ?_, a3, fun j => ?_, a5⟩
  · show zup (S 1) (R 0 1) c = zup (R 6) (R 0 1) c
    rw [h.s1]
  · show 0 ≤ R 0 1 + 1 ∧ R 0 1 + 1 ≤ 64
    omega
  · show 0 ≤ zup (R 6) (R 0 1) c j ∧ zup (R 6) (R 0 1) c j ≤ 255
    by_cases e : j = R 0 1
    · rw [e, zup_s]
      omega
    · rw [zup_n e]
      exact a4 j
theorem rl_row {c : Int} (h : Rl X S R P T) (hq : q_row c (R 0 3) = 0) : Rl (up (up X 1 (R 0 3) c) 0 0 (R 0 3 + 1)) S (up (up R 8 (R 0 3) c) 0 3 (R 0 3 + 1)) P T := by
  obtain ⟨a1, a2, a3, a4, a5⟩ := h.ir
  unfold q_row at hq
  have hc : 0 ≤ c ∧ c ≤ 9 ∧ R 0 3 ≠ 8 := by
    by_cases e : sOut c 0 9 = 0
    · rw [if_pos e] at hq
      have := out_0 e
      refine ⟨this.1, this.2, fun e2 => ?_⟩
      rw [if_pos e2] at hq
      omega
    · rw [if_neg e] at hq
      exact absurd hq e
  refine ⟨rfl, h.2.1, ?_, h.2.2.2.1, h.2.2.2.2.1, h.2.2.2.2.2.1, h.2.2.2.2.2.2.1, h.2.2.2.2.2.2.2.1, a1, a2, ?_, a4, fun j => ?_⟩
  · show zup (X 1) (R 0 3) c = zup (R 8) (R 0 3) c
    rw [h.row]
  · show 0 ≤ R 0 3 + 1 ∧ R 0 3 + 1 ≤ 8
    omega
  · show 0 ≤ zup (R 8) (R 0 3) c j ∧ zup (R 8) (R 0 3) c j ≤ 9
    by_cases e : j = R 0 3
    · rw [e, zup_s]
      omega
    · rw [zup_n e]
      exact a5 j
theorem rl_judge (h : Rl X S R P T) : Rl (up X 0 0 0) S (up R 0 3 0) P T := by
  obtain ⟨a1, a2, a3, a4, a5⟩ := h.ir
  exact ⟨rfl, h.2.1, h.2.2.1, h.2.2.2.1, h.2.2.2.2.1, h.2.2.2.2.2.1, h.2.2.2.2.2.2.1, h.2.2.2.2.2.2.2.1, a1, a2, by show (0 : Int) ≤ 0 ∧ (0 : Int) ≤ 8; decide, a4, a5⟩
theorem rl_image (h : Rl X S R P T) : Rl (up X 0 1 1) S (up (up1 R 3 (flat T)) 0 0 1) T T := by
  obtain ⟨a1, a2, a3, a4, a5⟩ := h.ir
  exact ⟨h.1, rfl, h.2.2.1, h.2.2.2.1, h.2.2.2.2.1, h.2.2.2.2.2.1, fun _ => ⟨rfl, h.it, h.k⟩, h.2.2.2.2.2.2.2.1, Or.inr rfl, a2, a3, a4, a5⟩
theorem rl_town {R' : Tn} (h : Rl X S R P T) (e : R' 0 0 = R 0 0 ∧ R' 0 1 = 0 ∧ R' 0 3 = R 0 3 ∧ R' 1 = R 1 ∧ R' 3 = R 3 ∧ R' 6 = R 6 ∧ R' 8 = R 8) : Rl X (up S 0 0 0) R' P (t_town (R 6) (R 0 1) T) := by
  obtain ⟨a1, a2, a3, a4, a5⟩ := h.ir
  obtain ⟨e0, e1, e3, f1, f3, f6, f8⟩ := e
  have ht := to_town (L := R 6) (n := R 0 1) (fun j => (a4 j).1) a2.2 h.it
  have hk := h.k
  refine ⟨by rw [e3]; exact h.1, by rw [e0]; exact h.2.1, by rw [f8]; exact h.2.2.1, fun j h1 h2 => by rw [f1]; exact h.2.2.2.1 j h1 h2, by rw [e1]; rfl, by rw [f6]; exact h.2.2.2.2.2.1, fun q => ?_, ⟨ht.1, by omega⟩, by rw [e0]; exact a1, by rw [e1]; omega, by rw [e3]; exact a3, fun j => by rw [f6]; exact a4 j, fun j => by rw [f8]; exact a5 j⟩
  rw [f3]
  exact h.p (by rw [← e0]; exact q)
theorem count_eq (h : Rl X S R P T) (w : Int) : v_countC X S T w = v_count R T w := by
  unfold v_countC v_count
  rw [h.x0, h.s0]
  by_cases e : 10 < w ∧ w < 17
  · rw [if_pos e, if_pos e, h.ref (by omega) (by omega)]
  · rw [if_neg e, if_neg e]
end
/-! the law's own -/
def wW (G : GT) (a b : Nat → Nat) (X N M P S R T : Tn) : List va_W := wC G a X N M P S ++ wR G b R T
theorem W_u0_1_2_3_4 (G : GT) (a b : Nat → Nat) (X N M P S R T X' N' M' P' S' : Tn) : ups (wW G a b X N M P S R T) [0, 1, 2, 3, 4] (wC G a X' N' M' P' S') = wW G a b X' N' M' P' S' R T := rfl
theorem W_u5_6_7_8_9_10_11_12_13 (G : GT) (a b : Nat → Nat) (X N M P S R T R' T' : Tn) : ups (wW G a b X N M P S R T) [5, 6, 7, 8, 9, 10, 11, 12, 13] (wR G b R' T') = wW G a b X N M P S R' T' := rfl
def xv (xs : Nat → Int32) (z : Int) : Int := (xs z.toNat).toInt
theorem xv_r (xs : Nat → Int32) (z : Int) : -2147483648 ≤ xv xs z ∧ xv xs z < 2147483648 := iI_rng _
section
variable {K : KT} {l : Launch} {G : GT} {cc : ByteArray} {own : String} {ret : Option FieldType} {rm : Room} {pc : Nat} {vs : List (Option Value)} {st : List Value} {gs : List va_W}
theorem r_sld (C : Cf K l G cc own ret rm) {b0 L : Nat} {xs : Nat → Int32} (hX : va_X b0 L xs (ks K) (ks K).heap) (hbl : b0 < (ks K).heap.size) (hbA : ¬ kA K b0) (hL : L ≤ 2560) {z : Int} (hd : decode cc pc = .ok (.iaload, 1)) (hz : 0 ≤ z ∧ z < L) (k : Wc K G (pc + 1) vs (.int (iI (xv xs z)) :: st) gs) : Wc K G pc vs (.int (iI z) :: .ref b0 :: st) gs := by
  intro H locs ls hP hD hS hl
  refine va_sld C.x C.b hX hbl hbA hS (iI_in hz (by omega)) hd ?_
  rw [iI_clamp (by omega)]
  have h := k H locs ls hP hD hS hl
  unfold xv at h
  rw [iI_asI] at h
  exact h
theorem r_slen (C : Cf K l G cc own ret rm) {b0 L : Nat} {xs : Nat → Int32} (hX : va_X b0 L xs (ks K) (ks K).heap) (hbl : b0 < (ks K).heap.size) (hbA : ¬ kA K b0) (hd : decode cc pc = .ok (.arraylength, 1)) (k : Wc K G (pc + 1) vs (.int (iI (L : Int)) :: st) gs) : Wc K G pc vs (.ref b0 :: st) gs := by
  intro H locs ls hP hD hS hl
  refine va_slen C.x C.b hX hbl hbA hS hd ?_
  rw [show Int32.ofNat L = iI (L : Int) from (iI_nat L).symm]
  exact k H locs ls hP hD hS hl
theorem r_same (C : Cf K l G cc own ret rm) {a b off : Int} {tgt : Nat} (hd : decode cc pc = .ok (.if_icmp .eq off, 3)) (ht : (pc : Int) + off = (tgt : Int)) (e : a = b) (k : Wc K G tgt vs st gs) : Wc K G pc vs (.int (iI b) :: .int (iI a) :: st) gs := by
  subst e
  intro H locs ls hP hD hS hl
  exact lv_icmp_eq C.x C.b hd ht (fun _ => k H locs ls hP hD hS hl) (fun h => absurd rfl h)
end

