theorem zor_nat {a b : Nat} (ha : a < 256) (hb : b < 256) : zor (a : Int) (b : Int) = ((a ||| b : Nat) : Int) ∧ a ||| b < 256 := by
  have hab : a ||| b < 2 ^ 8 := Nat.or_lt_two_pow ha hb
  have h : iI (a : Int) ||| iI (b : Int) = iI ((a ||| b : Nat) : Int) := by
    apply Int32.toBitVec.inj
    rw [Int32.toBitVec_or, iI_nat, iI_nat, iI_nat]
    show BitVec.ofNat 32 a ||| BitVec.ofNat 32 b = BitVec.ofNat 32 (a ||| b)
    exact (BitVec.ofNat_or ..).symm
  refine ⟨?_, by omega⟩
  unfold zor
  rw [h, iI_toInt (by omega)]
theorem zor_bit {a b : Int} (ha : 0 ≤ a ∧ a < 256) (hb : 0 ≤ b ∧ b < 256) : (0 ≤ zor a b ∧ zor a b < 256) ∧ ∀ d, 0 ≤ d → (zbit (zor a b) d = 1 ↔ zbit a d = 1 ∨ zbit b d = 1) := by
  have h := zor_nat (a := a.toNat) (b := b.toNat) (by omega) (by omega)
  rw [show (a.toNat : Int) = a by omega, show (b.toNat : Int) = b by omega] at h
  rw [h.1]
  refine ⟨by omega, fun d hd => ?_⟩
  have h1 := zbit_nat (a.toNat ||| b.toNat) d.toNat
  have h2 := zbit_nat a.toNat d.toNat
  have h3 := zbit_nat b.toNat d.toNat
  rw [show (d.toNat : Int) = d by omega] at h1 h2 h3
  rw [show (a.toNat : Int) = a by omega] at h2
  rw [show (b.toNat : Int) = b by omega] at h3
  rw [h1, h2, h3, Nat.testBit_or]
  cases a.toNat.testBit d.toNat <;> cases b.toNat.testBit d.toNat <;> decide
/-- the mask is of those whose loft, of the first i, is led by p -/
def sLm (T : Tn) (v p i s : Int) : Prop := (0 ≤ s ∧ s < 256) ∧ ∀ d, 0 ≤ d → d < T 0 1 → (zbit s d = 1 ↔ (0 ≤ T 6 d ∧ T 6 d < i ∧ sComp T v (T 6 d) = p))
theorem sLm_0 (T : Tn) (v p : Int) : sLm T v p 0 0 := by
  refine ⟨by omega, fun d h0 h1 => ?_⟩
  rw [zbit_0]
  constructor
  · intro h; exact absurd h (by decide)
  · intro h; omega
theorem sLm_n {T : Tn} {v p i s : Int} (h : sLm T v p i s) (hn : sComp T v i ≠ p) : sLm T v p (i + 1) s := by
  refine ⟨h.1, fun d h0 h1 => ?_⟩
  rw [h.2 d h0 h1]
  constructor
  · intro q; exact ⟨q.1, by omega, q.2.2⟩
  · intro q
    refine ⟨q.1, ?_, q.2.2⟩
    by_cases e : T 6 d = i
    · rw [e] at q; exact absurd q.2.2 hn
    · omega
theorem sLm_y {T : Tn} {v p i s : Int} (hD : 0 ≤ T 0 1 ∧ T 0 1 ≤ 8) (hi : 0 ≤ i) (h : sLm T v p i s) (hy : sComp T v i = p) : sLm T v p (i + 1) (zor s (sMask (fun d => T 6 d = i) (T 0 1))) := by
  have hr := (sMask_r (fun d => T 6 d = i) hD.1 hD.2).1
  have hz := zp2_r (L := T 0 1) (by omega)
  obtain ⟨k1, k2⟩ := zor_bit h.1 (b := sMask (fun d => T 6 d = i) (T 0 1)) (by omega)
  refine ⟨k1, fun d h0 h1 => ?_⟩
  rw [k2 d h0, h.2 d h0 h1, sMask_b (fun d => T 6 d = i) h0 h1 hD.2]
  constructor
  · rintro (q | q)
    · exact ⟨q.1, by omega, q.2.2⟩
    · exact ⟨by omega, by omega, by rw [q]; exact hy⟩
  · intro q
    by_cases e : T 6 d = i
    · exact Or.inr e
    · exact Or.inl ⟨q.1, by omega, q.2.2⟩

