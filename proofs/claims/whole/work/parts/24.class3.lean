theorem zand_nat {a b : Nat} (ha : a < 2147483648) (hb : b < 2147483648) : zand (a : Int) (b : Int) = ((a &&& b : Nat) : Int) := by
  unfold zand
  have hab : a &&& b ≤ a := Nat.and_le_left
  have h : iI (a : Int) &&& iI (b : Int) = iI ((a &&& b : Nat) : Int) := by
    apply Int32.toBitVec.inj
    rw [Int32.toBitVec_and, iI_nat, iI_nat, iI_nat]
    show BitVec.ofNat 32 a &&& BitVec.ofNat 32 b = BitVec.ofNat 32 (a &&& b)
    exact (BitVec.ofNat_and ..).symm
  rw [h, iI_toInt (by omega)]
theorem zbit_nat (n d : Nat) : zbit (n : Int) (d : Int) = if n.testBit d then 1 else 0 := by
  unfold zbit zp2
  rw [Nat.testBit_eq_decide_div_mod_eq]
  show (n : Int) / 2 ^ d % 2 = _
  have e : (n : Int) / 2 ^ d % 2 = ((n / 2 ^ d % 2 : Nat) : Int) := by
    rw [Int.natCast_emod, Int.natCast_ediv, Int.natCast_pow]
    rfl
  rw [e]
  have := Nat.mod_two_eq_zero_or_one (n / 2 ^ d)
  rcases this with h | h
  · rw [h]; rfl
  · rw [h]; rfl
theorem zand_bit {a b : Int} (ha : 0 ≤ a ∧ a < 2147483648) (hb : 0 ≤ b ∧ b < 2147483648) {d : Int} (hd : 0 ≤ d) : zbit (zand a b) d = 1 ↔ zbit a d = 1 ∧ zbit b d = 1 := by
  have h := zand_nat (a := a.toNat) (b := b.toNat) (by omega) (by omega)
  rw [show (a.toNat : Int) = a by omega, show (b.toNat : Int) = b by omega] at h
  rw [h]
  have h1 := zbit_nat (a.toNat &&& b.toNat) d.toNat
  have h2 := zbit_nat a.toNat d.toNat
  have h3 := zbit_nat b.toNat d.toNat
  rw [show (d.toNat : Int) = d by omega] at h1 h2 h3
  rw [show (a.toNat : Int) = a by omega] at h2
  rw [show (b.toNat : Int) = b by omega] at h3
  rw [h1, h2, h3, Nat.testBit_and]
  cases a.toNat.testBit d.toNat <;> cases b.toNat.testBit d.toNat <;> decide
theorem zand_lt {a b : Int} (ha : 0 ≤ a ∧ a < 2147483648) (hb : 0 ≤ b ∧ b < 2147483648) : 0 ≤ zand a b ∧ zand a b ≤ a ∧ zand a b ≤ b := by
  have h := zand_nat (a := a.toNat) (b := b.toNat) (by omega) (by omega)
  rw [show (a.toNat : Int) = a by omega, show (b.toNat : Int) = b by omega] at h
  have h1 : a.toNat &&& b.toNat ≤ a.toNat := Nat.and_le_left
  have h2 : a.toNat &&& b.toNat ≤ b.toNat := Nat.and_le_right
  omega
/-- nothing of s is out of m -/
theorem zand_not {s m : Int} (hs : -2147483648 ≤ s ∧ s < 2147483648) (hm : 0 ≤ m ∧ m < 256) : zand s (-m - 1) = 0 ↔ ((0 ≤ s ∧ s ≤ m) ∧ ∀ d, 0 ≤ d → d < 8 → zbit s d = 1 → zbit m d = 1) := by
  have hS : ((iI s).toBitVec.toNat : Int) = s % 4294967296 := iI_bvn s
  have hM : ((iI m).toBitVec.toNat : Int) = m := by
    rw [iI_bvn m]
    omega
  have hMn : (iI m).toBitVec.toNat = m.toNat := by omega
  have hN : ((iI (-m - 1)).toBitVec.toNat : Int) = 4294967296 - 1 - m := by
    rw [iI_bvn]
    omega
  have hNn : (iI (-m - 1)).toBitVec.toNat = 2 ^ 32 - (m.toNat + 1) := by omega
  have hz : zand s (-m - 1) = 0 ↔ (iI s).toBitVec.toNat &&& (iI (-m - 1)).toBitVec.toNat = 0 := by
    unfold zand
    rw [← BitVec.toNat_and, ← Int32.toBitVec_and]
    constructor
    · intro h
      have h2 : iI s &&& iI (-m - 1) = iI 0 := by rw [← iI_asI (iI s &&& iI (-m - 1)), h]
      rw [h2]
      rfl
    · intro h
      have h2 : iI s &&& iI (-m - 1) = 0 := by
        apply Int32.toBitVec.inj
        apply BitVec.eq_of_toNat_eq
        rw [h]
        rfl
      rw [h2]
      rfl
  have hb : ∀ i, (2 ^ 32 - (m.toNat + 1)).testBit i = (decide (i < 32) && !m.toNat.testBit i) := fun i => Nat.testBit_two_pow_sub_succ (by omega) i
  have hlt : (iI s).toBitVec.toNat < 2 ^ 32 := (iI s).toBitVec.isLt
  rw [hz, hNn]
  constructor
  · intro h
    have hsub : ∀ i, (iI s).toBitVec.toNat.testBit i = true → m.toNat.testBit i = true := by
      intro i hi
      have h1 : ((iI s).toBitVec.toNat &&& (2 ^ 32 - (m.toNat + 1))).testBit i = false := by rw [h]; exact Nat.zero_testBit i
      have h32 : i < 32 := by
        refine Classical.byContradiction (fun q => ?_)
        have : (iI s).toBitVec.toNat < 2 ^ i := Nat.lt_of_lt_of_le hlt (Nat.pow_le_pow_right (by decide) (by omega))
        rw [Nat.testBit_lt_two_pow this] at hi
        exact absurd hi (by decide)
      rw [Nat.testBit_and, hi, hb i, Bool.true_and] at h1
      rw [show decide (i < 32) = true from decide_eq_true h32, Bool.true_and] at h1
      cases hq : m.toNat.testBit i
      · rw [hq] at h1; exact absurd h1 (by decide)
      · rfl
    have hle : (iI s).toBitVec.toNat &&& m.toNat = (iI s).toBitVec.toNat := by
      apply Nat.eq_of_testBit_eq
      intro i
      rw [Nat.testBit_and]
      cases hq : (iI s).toBitVec.toNat.testBit i
      · rfl
      · rw [hsub i hq]; rfl
    have hle2 : (iI s).toBitVec.toNat ≤ m.toNat := by
      rw [← hle]
      exact Nat.and_le_right
    have hs0 : 0 ≤ s ∧ s ≤ m := by omega
    refine ⟨hs0, fun d h0 h1 hd => ?_⟩
    have k1 := zbit_nat s.toNat d.toNat
    have k2 := zbit_nat m.toNat d.toNat
    rw [show (s.toNat : Int) = s by omega, show (d.toNat : Int) = d by omega] at k1
    rw [show (m.toNat : Int) = m by omega, show (d.toNat : Int) = d by omega] at k2
    have hsn : (iI s).toBitVec.toNat = s.toNat := by omega
    rw [hsn] at hsub
    rw [k1] at hd
    rw [k2]
    cases hq : s.toNat.testBit d.toNat
    · rw [hq] at hd; exact absurd hd (by decide)
    · rw [hsub _ hq]; rfl
  · rintro ⟨hs0, hbit⟩
    have hsn : (iI s).toBitVec.toNat = s.toNat := by omega
    rw [hsn]
    apply Nat.eq_of_testBit_eq
    intro i
    rw [Nat.testBit_and, hb i, Nat.zero_testBit]
    cases hq : s.toNat.testBit i
    · rfl
    · have h8 : i < 8 := by
        refine Classical.byContradiction (fun q => ?_)
        have : s.toNat < 2 ^ i := Nat.lt_of_lt_of_le (show s.toNat < 2 ^ 8 by omega) (Nat.pow_le_pow_right (by decide) (by omega))
        rw [Nat.testBit_lt_two_pow this] at hq
        exact absurd hq (by decide)
      have k1 := zbit_nat s.toNat i
      have k2 := zbit_nat m.toNat i
      rw [show (s.toNat : Int) = s by omega] at k1
      rw [show (m.toNat : Int) = m by omega] at k2
      have := hbit i (by omega) (by omega) (by rw [k1, hq]; rfl)
      rw [k2] at this
      cases hq2 : m.toNat.testBit i
      · rw [hq2] at this; exact absurd this (by decide)
      · simp
theorem sWorth_own {T : Tn} (hD : 0 ≤ T 0 1 ∧ T 0 1 ≤ 8) (q : Int) : sWorth T (zand (sMask (fun d => T 4 d = q) (T 0 1)) (sMask (fun d => T 6 d ≠ 9) (T 0 1))) (T 0 1) = sOwn T q (T 0 1) := by
  have r1 := (sMask_r (fun d => T 4 d = q) hD.1 hD.2).1
  have r2 := (sMask_r (fun d => T 6 d ≠ 9) hD.1 hD.2).1
  have hz := zp2_r (L := T 0 1) (by omega)
  unfold sWorth sOwn
  refine sSum_cg (fun j h0 h1 => ?_)
  have b1 := sMask_b (fun d => T 4 d = q) h0 h1 hD.2
  have b2 := sMask_b (fun d => T 6 d ≠ 9) h0 h1 hD.2
  have b3 := zand_bit (a := sMask (fun d => T 4 d = q) (T 0 1)) (b := sMask (fun d => T 6 d ≠ 9) (T 0 1)) (by omega) (by omega) h0
  by_cases e : T 4 j = q ∧ T 6 j ≠ 9
  · rw [if_pos e, if_pos (b3.mpr ⟨b1.mpr e.1, b2.mpr e.2⟩)]
  · rw [if_neg e, if_neg (fun z => e ⟨b1.mp (b3.mp z).1, b2.mp (b3.mp z).2⟩)]
set_option maxRecDepth 100000 in
set_option maxHeartbeats 4000000 in
theorem c_X6_ownOf (l : Launch) (G : GT) (h : Nat → Nat) (T : Tn) (q : Int) (hI : IT T) (gq : -2147483648 ≤ q ∧ q < 2147483648) : Cn l yX6_ownOf cX6_ownOf 2 (Option.some .int) ({ frames := 5, cells := 0, slots := 0, locals := 107 }) G [.ref (h 0), .int (iI q)] (wT G h T) (jst (some (.int (iI (sOwn T q (T 0 1))))) (wT G h T)) := by
  refine Cn_in RX6 [some (.ref (h 0)), some (.int (iI q))] (by decide +kernel) rfl rfl rfl (Nat.le_of_ble_eq_true rfl) (fun K C hQ => ?_)
  have hBB := hI.b
  have hLL := hI.L
  have hDD := hI.D
  have hm1 := (sMask_r (fun d => T 4 d = q) hDD.1 hDD.2).1
  have hm2 := (sMask_r (fun d => T 6 d ≠ 9) hDD.1 hDD.2).1
  have hzp := zp2_r (L := T 0 1) (by omega)
  refine r_aload_n (pc := 0) C 0 dX6_ownOf_0 rfl rfl ?_
  refine r_aload_n (pc := 1) C 0 dX6_ownOf_1 rfl rfl ?_
  refine r_iload_n (pc := 2) C 1 dX6_ownOf_2 rfl rfl ?_
  refine r_callV (pc := 3) (is := [0]) C YX6_dovesHatchedIn dX6_ownOf_3 tw_460 (c_X6_dovesHatchedIn l G _ _ _ (by first | assumption | omega | exact zand_rng _ _ | exact zor_rng _ _ | exact zxor_rng _ _ | exact BT.r (IT.b (by assumption)) _ _) (by first | assumption | omega | exact zand_rng _ _ | exact zor_rng _ _ | exact zxor_rng _ _ | exact BT.r (IT.b (by assumption)) _ _)) 0 0 rfl rfl (ci := 6) rfl rfl rfl (by decide) rfl rfl (Nat.le_of_ble_eq_true rfl) ⟨rfl, rfl, by decide, by decide⟩ (jst_i (T_uall ..) ?_)
  refine r_aload_n (pc := 6) C 0 dX6_ownOf_6 rfl rfl ?_
  refine r_callV (pc := 7) (is := [0]) C YX6_dovesNotLost dX6_ownOf_7 tw_464 (c_X6_dovesNotLost l G _ _ (by first | assumption | omega | exact zand_rng _ _ | exact zor_rng _ _ | exact zxor_rng _ _ | exact BT.r (IT.b (by assumption)) _ _)) 0 0 rfl rfl (ci := 6) rfl rfl rfl (by decide) rfl rfl (Nat.le_of_ble_eq_true rfl) ⟨rfl, rfl, by decide, by decide⟩ (jst_i (T_uall ..) ?_)
  refine r_iand (pc := 10) C dX6_ownOf_10 ?_
  refine r_callV (pc := 11) (is := [0]) C YX6_worthOfAll dX6_ownOf_11 tw_415 (c_X6_worthOfAll l G _ _ _ (by first | assumption | omega | exact zand_rng _ _ | exact zor_rng _ _ | exact zxor_rng _ _ | exact BT.r (IT.b (by assumption)) _ _) (by first | assumption | omega | exact zand_rng _ _ | exact zor_rng _ _ | exact zxor_rng _ _ | exact BT.r (IT.b (by assumption)) _ _)) 0 0 rfl rfl (ci := 6) rfl rfl rfl (by decide) rfl rfl (Nat.le_of_ble_eq_true rfl) ⟨rfl, rfl, by decide, by decide⟩ (jst_i (T_uall ..) ?_)
  exact r_iret (pc := 14) C hQ dX6_ownOf_14 rfl (jst_ri (by exact sWorth_own hDD q) rfl)

