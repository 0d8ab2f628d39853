/-! Integer.bitCount of a set of doves -/
def bA (m : Int) : Int := m - zand (m / zp2 1) 1431655765
def bB (a : Int) : Int := zand a 858993459 + zand (a / zp2 2) 858993459
def bC (b : Int) : Int := zand (b + b / zp2 4) 252645135
def bD (c : Int) : Int := c + c / zp2 8
def bE (d : Int) : Int := d + d / zp2 16
def sPop (m : Int) : Int := sSum (fun d => zbit m d) 8
theorem bc_n : ∀ n : Nat, n < 256 → (0 ≤ bA (n : Int) ∧ bA (n : Int) < 2147483648) ∧ (0 ≤ bB (bA (n : Int)) ∧ bB (bA (n : Int)) < 2147483648) ∧ (0 ≤ bC (bB (bA (n : Int))) ∧ bC (bB (bA (n : Int))) < 2147483648) ∧ (0 ≤ bD (bC (bB (bA (n : Int)))) ∧ bD (bC (bB (bA (n : Int)))) < 2147483648) ∧ zand (bE (bD (bC (bB (bA (n : Int)))))) 63 = sPop (n : Int) := by decide +kernel
theorem bc_r {m : Int} (h : 0 ≤ m ∧ m < 256) : (0 ≤ bA m ∧ bA m < 2147483648) ∧ (0 ≤ bB (bA m) ∧ bB (bA m) < 2147483648) ∧ (0 ≤ bC (bB (bA m)) ∧ bC (bB (bA m)) < 2147483648) ∧ (0 ≤ bD (bC (bB (bA m))) ∧ bD (bC (bB (bA m))) < 2147483648) ∧ zand (bE (bD (bC (bB (bA m))))) 63 = sPop m := by
  have := bc_n m.toNat (by omega)
  rw [show (m.toNat : Int) = m by omega] at this
  exact this
theorem sPop_lost {T : Tn} (hD : 0 ≤ T 0 1 ∧ T 0 1 ≤ 8) : T 0 1 - sPop (sMask (fun d => T 6 d ≠ 9) (T 0 1)) = sLost T (T 0 1) := by
  have hm := (sMask_r (fun d => T 6 d ≠ 9) hD.1 hD.2).2
  have H : ∀ n : Nat, n ≤ 8 → sSum (fun d => zbit (sMask (fun d => T 6 d ≠ 9) (T 0 1)) d) (n : Int) = (if (n : Int) ≤ T 0 1 then (n : Int) - sLost T (n : Int) else T 0 1 - sLost T (T 0 1)) := by
    intro n
    induction n with
    | zero =>
      intro _
      rw [if_pos (by omega)]
      rfl
    | succ n ih =>
      intro hn
      have ih := ih (by omega)
      have hb := hm (n : Int) (by omega) (by omega)
      rw [show ((n + 1 : Nat) : Int) = (n : Int) + 1 by omega, sSum_s _ (by omega), ih, hb, sLost_s T (by omega)]
      by_cases e : (n : Int) + 1 ≤ T 0 1
      · rw [if_pos (by omega), if_pos e]
        by_cases e2 : T 6 n = 9
        · rw [if_neg (fun z => z.2 e2), if_pos e2]
          omega
        · rw [if_pos ⟨by omega, e2⟩, if_neg e2]
          omega
      · rw [if_neg e, show (if (n : Int) < T 0 1 ∧ T 6 (n : Int) ≠ 9 then (1 : Int) else 0) = 0 from if_neg (fun z => e (by omega)), Int.add_zero]
        by_cases e3 : (n : Int) ≤ T 0 1
        · rw [if_pos e3, show (n : Int) = T 0 1 by omega]
        · rw [if_neg e3]
  have h8 := H 8 (by omega)
  unfold sPop
  rw [show ((8 : Nat) : Int) = 8 from rfl] at h8
  rw [h8]
  by_cases e : (8 : Int) ≤ T 0 1
  · rw [if_pos e, show T 0 1 = 8 by omega]
    omega
  · rw [if_neg e]
    omega
def v_countC (X S T : Tn) (w : Int) : Int := if 10 < w ∧ w < 17 then X 4 (w - 10) else if w = 0 then T 0 0 else if w = 1 then T 0 1 else if w = 2 then T 0 4 else if w = 3 then sLost T (T 0 1) else if w = 4 then T 0 3 else if w = 5 then T 0 2 else if w = 6 then sWorthN T (T 0 1) else if w = 7 then X 0 0 else if w = 8 then S 0 0 else -9
theorem sWorth_N {T : Tn} (hD : T 0 1 ≤ 8) : sWorth T (sMask (fun d => T 6 d ≠ 9) (T 0 1)) (T 0 1) = sWorthN T (T 0 1) := by
  unfold sWorth sWorthN
  refine sSum_cg (fun j h0 h1 => ?_)
  have := sMask_b (fun d => T 6 d ≠ 9) h0 h1 hD
  by_cases e : T 6 j = 9
  · rw [if_pos e, if_neg (fun z => this.mp z e)]
  · rw [if_neg e, if_pos (this.mpr e)]
theorem iI_w10 {w : Int} (gw : -2147483648 ≤ w ∧ w < 2147483648) : ∃ z : Int, (-2147483648 ≤ z ∧ z < 2147483648) ∧ iI (w - 10) = iI z ∧ (z = w - 10 ∨ (z = w - 10 + 4294967296 ∧ w - 10 < -2147483648)) := by
  by_cases h : -2147483648 ≤ w - 10
  · exact ⟨w - 10, by omega, rfl, Or.inl rfl⟩
  · refine ⟨w - 10 + 4294967296, by omega, ?_, Or.inr ⟨rfl, by omega⟩⟩
    apply Int32.toBitVec.inj
    apply BitVec.eq_of_toNat_eq
    have h1 := iI_bvn (w - 10)
    have h2 := iI_bvn (w - 10 + 4294967296)
    omega
def sFmN (c : Int) : Nat := if c = 108 then 0 else if c = 100 then 1 else if c = 111 then 2 else if c = 104 then 3 else 4
theorem sE_b {L : Int → Int} {n p : Int} (h : 0 ≤ p ∧ p ≤ 64) : -80 ≤ sE L n p ∧ sE L n p ≤ 80 := by
  unfold sE sED sEK sES
  (repeat' split) <;> omega
set_option maxRecDepth 100000 in
set_option maxHeartbeats 4000000 in
theorem c_J6_bitCount_0f7a4 (l : Launch) (G : GT) (m : Int) (hm : 0 ≤ m ∧ m < 256) : Cn l yJ6_bitCount_0f7a4 cJ6_bitCount_0f7a4 1 (Option.some .int) ({ frames := 0, cells := 0, slots := 0, locals := 0 }) G [.int (iI m)] (w0) (jst (some (.int (iI (sPop m)))) (w0)) := by
  refine Cn_in RJ6 [some (.int (iI m))] (by decide +kernel) rfl rfl rfl (Nat.le_of_ble_eq_true rfl) (fun K C hQ => ?_)
  obtain ⟨ba, bb, bc, bd, be⟩ := bc_r hm
  refine r_iload_n (pc := 0) C 0 dJ6_bitCount_0f7a4_0 rfl rfl ?_
  refine r_iload_n (pc := 1) C 0 dJ6_bitCount_0f7a4_1 rfl rfl ?_
  refine r_iconst (pc := 2) C dJ6_bitCount_0f7a4_2 ?_
  refine r_iushr (pc := 3) C dJ6_bitCount_0f7a4_3 (by omega) (by omega) ?_
  refine r_ldcw (pc := 4) C dJ6_bitCount_0f7a4_4 (n := 1431655765) tw_728 (by decide) ?_
  refine r_iand (pc := 7) C dJ6_bitCount_0f7a4_7 ?_
  refine r_isub (pc := 8) C dJ6_bitCount_0f7a4_8 ?_
  refine r_istore_n (pc := 9) C 0 dJ6_bitCount_0f7a4_9 rfl (Nat.le_of_ble_eq_true rfl) ?_
  show Wc K G _ [some (.int (iI (bA m)))] _ _
  refine r_iload_n (pc := 10) C 0 dJ6_bitCount_0f7a4_10 rfl rfl ?_
  refine r_ldcw (pc := 11) C dJ6_bitCount_0f7a4_11 (n := 858993459) tw_729 (by decide) ?_
  refine r_iand (pc := 14) C dJ6_bitCount_0f7a4_14 ?_
  refine r_iload_n (pc := 15) C 0 dJ6_bitCount_0f7a4_15 rfl rfl ?_
  refine r_iconst (pc := 16) C dJ6_bitCount_0f7a4_16 ?_
  refine r_iushr (pc := 17) C dJ6_bitCount_0f7a4_17 (by omega) (by omega) ?_
  refine r_ldcw (pc := 18) C dJ6_bitCount_0f7a4_18 (n := 858993459) tw_729 (by decide) ?_
  refine r_iand (pc := 21) C dJ6_bitCount_0f7a4_21 ?_
  refine r_iadd (pc := 22) C dJ6_bitCount_0f7a4_22 ?_
  refine r_istore_n (pc := 23) C 0 dJ6_bitCount_0f7a4_23 rfl (Nat.le_of_ble_eq_true rfl) ?_
  show Wc K G _ [some (.int (iI (bB (bA m))))] _ _
  refine r_iload_n (pc := 24) C 0 dJ6_bitCount_0f7a4_24 rfl rfl ?_
  refine r_iload_n (pc := 25) C 0 dJ6_bitCount_0f7a4_25 rfl rfl ?_
  refine r_iconst (pc := 26) C dJ6_bitCount_0f7a4_26 ?_
  refine r_iushr (pc := 27) C dJ6_bitCount_0f7a4_27 (by omega) (by omega) ?_
  refine r_iadd (pc := 28) C dJ6_bitCount_0f7a4_28 ?_
  refine r_ldcw (pc := 29) C dJ6_bitCount_0f7a4_29 (n := 252645135) tw_730 (by decide) ?_
  refine r_iand (pc := 32) C dJ6_bitCount_0f7a4_32 ?_
  refine r_istore_n (pc := 33) C 0 dJ6_bitCount_0f7a4_33 rfl (Nat.le_of_ble_eq_true rfl) ?_
  show Wc K G _ [some (.int (iI (bC (bB (bA m)))))] _ _
  refine r_iload_n (pc := 34) C 0 dJ6_bitCount_0f7a4_34 rfl rfl ?_
  refine r_iload_n (pc := 35) C 0 dJ6_bitCount_0f7a4_35 rfl rfl ?_
  refine r_bipush (pc := 36) C dJ6_bitCount_0f7a4_36 (by decide) ?_
  refine r_iushr (pc := 38) C dJ6_bitCount_0f7a4_38 (by omega) (by omega) ?_
  refine r_iadd (pc := 39) C dJ6_bitCount_0f7a4_39 ?_
  refine r_istore_n (pc := 40) C 0 dJ6_bitCount_0f7a4_40 rfl (Nat.le_of_ble_eq_true rfl) ?_
  show Wc K G _ [some (.int (iI (bD (bC (bB (bA m))))))] _ _
  refine r_iload_n (pc := 41) C 0 dJ6_bitCount_0f7a4_41 rfl rfl ?_
  refine r_iload_n (pc := 42) C 0 dJ6_bitCount_0f7a4_42 rfl rfl ?_
  refine r_bipush (pc := 43) C dJ6_bitCount_0f7a4_43 (by decide) ?_
  refine r_iushr (pc := 45) C dJ6_bitCount_0f7a4_45 (by omega) (by omega) ?_
  refine r_iadd (pc := 46) C dJ6_bitCount_0f7a4_46 ?_
  refine r_istore_n (pc := 47) C 0 dJ6_bitCount_0f7a4_47 rfl (Nat.le_of_ble_eq_true rfl) ?_
  show Wc K G _ [some (.int (iI (bE (bD (bC (bB (bA m)))))))] _ _
  refine r_iload_n (pc := 48) C 0 dJ6_bitCount_0f7a4_48 rfl rfl ?_
  refine r_bipush (pc := 49) C dJ6_bitCount_0f7a4_49 (by decide) ?_
  refine r_iand (pc := 51) C dJ6_bitCount_0f7a4_51 ?_
  exact r_iret (pc := 52) C hQ dJ6_bitCount_0f7a4_52 rfl (jst_ri (by exact be) rfl)

set_option maxRecDepth 100000 in
set_option maxHeartbeats 4000000 in
theorem c_X8_count (l : Launch) (G : GT) (a : Nat → Nat) (X N M P S : Tn) (w : Int) (hI : IT N) (hX : IX X S) (gw : -2147483648 ≤ w ∧ w < 2147483648) : Cn l yX8_count cX8_count 2 (Option.some .int) ({ frames := 5, cells := 0, slots := 0, locals := 107 }) G [.ref (a 0), .int (iI w)] (wC G a X N M P S) (jst (some (.int (iI (v_countC X S N w)))) (wC G a X N M P S)) := by
  refine Cn_in RX8 [some (.ref (a 0)), some (.int (iI w))] (by decide +kernel) rfl rfl rfl (Nat.le_of_ble_eq_true rfl) (fun K C hQ => ?_)
  obtain ⟨x1, s1, x3, s6, x8⟩ := hX
  have hBB := hI.b
  have hLL := hI.L
  have hDD := hI.D
  have hkk := hI.k
  have hm1 := (sMask_r (fun d => N 6 d ≠ 9) hDD.1 hDD.2).1
  have hzp := zp2_r (L := N 0 1) (by omega)
  refine r_iload_n (pc := 0) C 1 dX8_count_0 rfl rfl ?_
  by_cases s1_0 : w = 0
  · refine r_tblIn (pc := 1) (tgt := 52) C 0 dX8_count_1 s1_0 (by decide) (by decide) (by decide) rfl (by decide) ?_
    refine r_aload_n (pc := 52) C 0 dX8_count_52 rfl rfl ?_
    refine r_get (pc := 53) C 0 0 0 dX8_count_53 in_X8 rfl rfl (ci := 8) rfl (by decide) tw_143 rfl rfl ?_
    refine r_get (pc := 56) C 1 0 8 dX8_count_56 in_X6 rfl rfl (ci := 6) rfl (by decide) tw_92 rfl rfl ?_
    exact r_iret (pc := 59) C hQ dX8_count_59 rfl (jst_ri (by unfold v_countC; (repeat (first | rw [if_pos (by omega)] | rw [if_neg (by omega)])); (try first | rfl | omega)) rfl)
  by_cases s1_1 : w = 1
  · refine r_tblIn (pc := 1) (tgt := 60) C 1 dX8_count_1 s1_1 (by decide) (by decide) (by decide) rfl (by decide) ?_
    refine r_aload_n (pc := 60) C 0 dX8_count_60 rfl rfl ?_
    refine r_get (pc := 61) C 0 0 0 dX8_count_61 in_X8 rfl rfl (ci := 8) rfl (by decide) tw_143 rfl rfl ?_
    refine r_get (pc := 64) C 1 0 9 dX8_count_64 in_X6 rfl rfl (ci := 6) rfl (by decide) tw_94 rfl rfl ?_
    exact r_iret (pc := 67) C hQ dX8_count_67 rfl (jst_ri (by unfold v_countC; (repeat (first | rw [if_pos (by omega)] | rw [if_neg (by omega)])); (try first | rfl | omega)) rfl)
  by_cases s1_2 : w = 2
  · refine r_tblIn (pc := 1) (tgt := 68) C 2 dX8_count_1 s1_2 (by decide) (by decide) (by decide) rfl (by decide) ?_
    refine r_aload_n (pc := 68) C 0 dX8_count_68 rfl rfl ?_
    refine r_get (pc := 69) C 0 0 0 dX8_count_69 in_X8 rfl rfl (ci := 8) rfl (by decide) tw_143 rfl rfl ?_
    refine r_get (pc := 72) C 1 0 12 dX8_count_72 in_X6 rfl rfl (ci := 6) rfl (by decide) tw_100 rfl rfl ?_
    exact r_iret (pc := 75) C hQ dX8_count_75 rfl (jst_ri (by unfold v_countC; (repeat (first | rw [if_pos (by omega)] | rw [if_neg (by omega)])); (try first | rfl | omega)) rfl)
  by_cases s1_3 : w = 3
  · refine r_tblIn (pc := 1) (tgt := 76) C 3 dX8_count_1 s1_3 (by decide) (by decide) (by decide) rfl (by decide) ?_
    refine r_aload_n (pc := 76) C 0 dX8_count_76 rfl rfl ?_
    refine r_get (pc := 77) C 0 0 0 dX8_count_77 in_X8 rfl rfl (ci := 8) rfl (by decide) tw_143 rfl rfl ?_
    refine r_get (pc := 80) C 1 0 9 dX8_count_80 in_X6 rfl rfl (ci := 6) rfl (by decide) tw_94 rfl rfl ?_
    refine r_aload_n (pc := 83) C 0 dX8_count_83 rfl rfl ?_
    refine r_get (pc := 84) C 0 0 0 dX8_count_84 in_X8 rfl rfl (ci := 8) rfl (by decide) tw_143 rfl rfl ?_
    refine r_callV (pc := 87) (is := [1]) C YX6_dovesNotLost dX8_count_87 tw_614 (c_X6_dovesNotLost l G _ _ (by first | assumption | omega | exact zand_rng _ _ | exact zor_rng _ _ | exact zxor_rng _ _ | exact BT.r (IT.b (by assumption)) _ _)) 1 0 rfl rfl (ci := 6) rfl rfl rfl (by decide) rfl rfl (Nat.le_of_ble_eq_true rfl) ⟨rfl, rfl, by decide, by decide⟩ (jst_i (C_u1 ..) ?_)
    refine r_callS (pc := 90) (is := []) C YJ6_bitCount_0f7a4 dX8_count_90 tw_725 (c_J6_bitCount_0f7a4 l G _ (by first | assumption | omega | exact zand_rng _ _ | exact zor_rng _ _ | exact zxor_rng _ _ | exact BT.r (IT.b (by assumption)) _ _)) rfl (by decide) rfl rfl (Nat.le_of_ble_eq_true rfl) ⟨rfl, rfl, by decide, by decide⟩ (jst_i (ups_nil _) ?_)
    refine r_isub (pc := 93) C dX8_count_93 ?_
    exact r_iret (pc := 94) C hQ dX8_count_94 rfl (jst_ri (by unfold v_countC; (repeat (first | rw [if_pos (by omega)] | rw [if_neg (by omega)])); exact sPop_lost hDD) rfl)
  by_cases s1_4 : w = 4
  · refine r_tblIn (pc := 1) (tgt := 95) C 4 dX8_count_1 s1_4 (by decide) (by decide) (by decide) rfl (by decide) ?_
    refine r_aload_n (pc := 95) C 0 dX8_count_95 rfl rfl ?_
    refine r_get (pc := 96) C 0 0 0 dX8_count_96 in_X8 rfl rfl (ci := 8) rfl (by decide) tw_143 rfl rfl ?_
    refine r_get (pc := 99) C 1 0 11 dX8_count_99 in_X6 rfl rfl (ci := 6) rfl (by decide) tw_98 rfl rfl ?_
    exact r_iret (pc := 102) C hQ dX8_count_102 rfl (jst_ri (by unfold v_countC; (repeat (first | rw [if_pos (by omega)] | rw [if_neg (by omega)])); (try first | rfl | omega)) rfl)
  by_cases s1_5 : w = 5
  · refine r_tblIn (pc := 1) (tgt := 103) C 5 dX8_count_1 s1_5 (by decide) (by decide) (by decide) rfl (by decide) ?_
    refine r_aload_n (pc := 103) C 0 dX8_count_103 rfl rfl ?_
    refine r_get (pc := 104) C 0 0 0 dX8_count_104 in_X8 rfl rfl (ci := 8) rfl (by decide) tw_143 rfl rfl ?_
    refine r_get (pc := 107) C 1 0 10 dX8_count_107 in_X6 rfl rfl (ci := 6) rfl (by decide) tw_96 rfl rfl ?_
    exact r_iret (pc := 110) C hQ dX8_count_110 rfl (jst_ri (by unfold v_countC; (repeat (first | rw [if_pos (by omega)] | rw [if_neg (by omega)])); (try first | rfl | omega)) rfl)
  by_cases s1_6 : w = 6
  · refine r_tblIn (pc := 1) (tgt := 111) C 6 dX8_count_1 s1_6 (by decide) (by decide) (by decide) rfl (by decide) ?_
    refine r_aload_n (pc := 111) C 0 dX8_count_111 rfl rfl ?_
    refine r_get (pc := 112) C 0 0 0 dX8_count_112 in_X8 rfl rfl (ci := 8) rfl (by decide) tw_143 rfl rfl ?_
    refine r_aload_n (pc := 115) C 0 dX8_count_115 rfl rfl ?_
    refine r_get (pc := 116) C 0 0 0 dX8_count_116 in_X8 rfl rfl (ci := 8) rfl (by decide) tw_143 rfl rfl ?_
    refine r_callV (pc := 119) (is := [1]) C YX6_dovesNotLost dX8_count_119 tw_614 (c_X6_dovesNotLost l G _ _ (by first | assumption | omega | exact zand_rng _ _ | exact zor_rng _ _ | exact zxor_rng _ _ | exact BT.r (IT.b (by assumption)) _ _)) 1 0 rfl rfl (ci := 6) rfl rfl rfl (by decide) rfl rfl (Nat.le_of_ble_eq_true rfl) ⟨rfl, rfl, by decide, by decide⟩ (jst_i (C_u1 ..) ?_)
    refine r_callV (pc := 122) (is := [1]) C YX6_worthOfAll dX8_count_122 tw_633 (c_X6_worthOfAll l G _ _ _ (by first | assumption | omega | exact zand_rng _ _ | exact zor_rng _ _ | exact zxor_rng _ _ | exact BT.r (IT.b (by assumption)) _ _) (by first | assumption | omega | exact zand_rng _ _ | exact zor_rng _ _ | exact zxor_rng _ _ | exact BT.r (IT.b (by assumption)) _ _)) 1 0 rfl rfl (ci := 6) rfl rfl rfl (by decide) rfl rfl (Nat.le_of_ble_eq_true rfl) ⟨rfl, rfl, by decide, by decide⟩ (jst_i (C_u1 ..) ?_)
    exact r_iret (pc := 125) C hQ dX8_count_125 rfl (jst_ri (by unfold v_countC; (repeat (first | rw [if_pos (by omega)] | rw [if_neg (by omega)])); exact sWorth_N hDD.2) rfl)
  by_cases s1_7 : w = 7
  · refine r_tblIn (pc := 1) (tgt := 126) C 7 dX8_count_1 s1_7 (by decide) (by decide) (by decide) rfl (by decide) ?_
    refine r_aload_n (pc := 126) C 0 dX8_count_126 rfl rfl ?_
    refine r_get (pc := 127) C 0 0 8 dX8_count_127 in_X8 rfl rfl (ci := 8) rfl (by decide) tw_151 rfl rfl ?_
    exact r_iret (pc := 130) C hQ dX8_count_130 rfl (jst_ri (by unfold v_countC; (repeat (first | rw [if_pos (by omega)] | rw [if_neg (by omega)])); (try first | rfl | omega)) rfl)
  by_cases s1_8 : w = 8
  · refine r_tblIn (pc := 1) (tgt := 131) C 8 dX8_count_1 s1_8 (by decide) (by decide) (by decide) rfl (by decide) ?_
    refine r_aload_n (pc := 131) C 0 dX8_count_131 rfl rfl ?_
    refine r_get (pc := 132) C 0 0 3 dX8_count_132 in_X8 rfl rfl (ci := 8) rfl (by decide) tw_146 rfl rfl ?_
    refine r_get (pc := 135) C 4 0 1 dX8_count_135 in_X5 rfl rfl (ci := 5) rfl (by decide) tw_137 rfl rfl ?_
    exact r_iret (pc := 138) C hQ dX8_count_138 rfl (jst_ri (by unfold v_countC; (repeat (first | rw [if_pos (by omega)] | rw [if_neg (by omega)])); (try first | rfl | omega)) rfl)
  refine r_tblOut (pc := 1) (tgt := 139) C dX8_count_1 gw (by omega) (by decide) ?_
  refine r_aload_n (pc := 139) C 0 dX8_count_139 rfl rfl ?_
  refine r_iload_n (pc := 140) C 1 dX8_count_140 rfl rfl ?_
  refine r_bipush (pc := 141) C dX8_count_141 (by decide) ?_
  refine r_isub (pc := 143) C dX8_count_143 ?_
  obtain ⟨z, gz, ez, hz⟩ := iI_w10 gw
  rw [ez]
  refine r_callV (pc := 144) (is := [0, 1, 2, 3, 4]) C YX8_refusalsCounted dX8_count_144 tw_731 (c_X8_refusalsCounted l G _ _ _ _ _ _ _ (by first | assumption | omega | exact zand_rng _ _ | exact zor_rng _ _ | exact zxor_rng _ _ | exact BT.r (IT.b (by assumption)) _ _)) 0 0 rfl rfl (ci := 8) rfl rfl rfl (by decide) rfl rfl (Nat.le_of_ble_eq_true rfl) ⟨rfl, rfl, by decide, by decide⟩ (jst_i (C_uall ..) ?_)
  exact r_iret (pc := 147) C hQ dX8_count_147 rfl (jst_ri (by rcases hz with hz | hz <;> by_cases q : 0 < z ∧ z < 7 <;> first | (exfalso; omega) | (unfold v_countC; rw [if_pos q, if_pos (by omega), show w - 10 = z by omega]; done) | (unfold v_countC; rw [if_neg q]; (repeat rw [if_neg (by omega)]); done)) rfl)

set_option maxRecDepth 100000 in
set_option maxHeartbeats 4000000 in
theorem c_X5_kindOf (l : Launch) (G : GT) (c : Int) (hc : -1 ≤ c ∧ c ≤ 255) : Cn l yX5_kindOf cX5_kindOf 1 (Option.some .int) ({ frames := 7, cells := 0, slots := 0, locals := 159 }) G [.int (iI c)] (w0) (jst (some (.int (iI (sKx c)))) (w0)) := by
  refine Cn_in RX5 [some (.int (iI c))] (by decide +kernel) rfl rfl rfl (Nat.le_of_ble_eq_true rfl) (fun K C hQ => ?_)
  refine r_iload_n (pc := 0) C 0 dX5_kindOf_0 rfl rfl ?_
  refine r_if_lt (pc := 1) (tgt := 21) C dX5_kindOf_1 (by decide) (by first | omega | exact zand_rng _ _ | exact zor_rng _ _ | exact zxor_rng _ _ | exact BT.r (IT.b (by assumption)) _ _) (fun c1 => ?_) (fun c1 => ?_)
  · refine r_iconst (pc := 21) C dX5_kindOf_21 ?_
    exact r_iret (pc := 22) C hQ dX5_kindOf_22 rfl (jst_ri (by first | rfl | (unfold sKx; (repeat (first | rw [if_pos (by omega)] | rw [if_neg (by omega)])))) rfl)
  · refine r_iload_n (pc := 4) C 0 dX5_kindOf_4 rfl rfl ?_
    refine r_sipush (pc := 5) C dX5_kindOf_5 (by decide) ?_
    refine r_icmp_gt (pc := 8) (tgt := 21) C dX5_kindOf_8 (by decide) (by first | omega | exact zand_rng _ _ | exact zor_rng _ _ | exact zxor_rng _ _ | exact BT.r (IT.b (by assumption)) _ _) (by first | omega | exact zand_rng _ _ | exact zor_rng _ _ | exact zxor_rng _ _ | exact BT.r (IT.b (by assumption)) _ _) (fun c8 => absurd c8 (by omega)) (fun c8 => ?_)
    refine r_ldcS (pc := 11) C dX5_kindOf_11  5 rfl ?_
    refine r_iload_n (pc := 13) C 0 dX5_kindOf_13 rfl rfl ?_
    refine r_i2c (pc := 14) C dX5_kindOf_14 (by omega) ?_
    refine r_callVS (pc := 15) (is := []) C YJ0_indexOf_0f7a4 dX5_kindOf_15 tw_284 (c_J0_indexOf_0f7a4 l G _ (by first | assumption | omega | exact zand_rng _ _ | exact zor_rng _ _ | exact zxor_rng _ _ | exact BT.r (IT.b (by assumption)) _ _)) 5 (by first | assumption | decide | omega) rfl rfl (by decide) rfl rfl (Nat.le_of_ble_eq_true rfl) ⟨rfl, rfl, by decide, by decide⟩ (jst_i (ups_nil _) ?_)
    refine r_goto (pc := 18) (tgt := 22) C dX5_kindOf_18 (by decide) ?_
    exact r_iret (pc := 22) C hQ dX5_kindOf_22 rfl (jst_ri (by first | rfl | (unfold sKx; (repeat (first | rw [if_pos (by omega)] | rw [if_neg (by omega)])))) rfl)

set_option maxRecDepth 100000 in
set_option maxHeartbeats 4000000 in
theorem c_X5_fits57 (l : Launch) (G : GT) (c : Int) (hc : -1 ≤ c ∧ c ≤ 255) : Cn l yX5_fits cX5_fits 2 (Option.some .boolean) ({ frames := 8, cells := 0, slots := 0, locals := 179 }) G [.int (iI 57), .int (iI c)] (w0) (jst (some (.int (iI (zb (sDg c))))) (w0)) := by
  refine Cn_in RX5 [some (.int (iI 57)), some (.int (iI c))] (by decide +kernel) rfl rfl rfl (Nat.le_of_ble_eq_true rfl) (fun K C hQ => ?_)
  have hk1 := sKx_k c
  have hk2 := sKind_r c
  refine r_iload_n (pc := 0) C 0 dX5_fits_0 rfl rfl ?_
  refine r_look (pc := 1) (tgt := 36) (off := 35) C dX5_fits_1 (by omega) (by decide) (by first | rfl | decide) (by decide) ?_
  refine r_iload_n (pc := 36) C 1 dX5_fits_36 rfl rfl ?_
  refine r_callS (pc := 37) (is := []) C YX5_isDigit dX5_fits_37 tw_277 (c_X5_isDigit l G _ (by first | assumption | omega | exact zand_rng _ _ | exact zor_rng _ _ | exact zxor_rng _ _ | exact BT.r (IT.b (by assumption)) _ _)) rfl (by decide) rfl rfl (Nat.le_of_ble_eq_true rfl) ⟨rfl, rfl, by decide, by decide⟩ (jst_i (ups_nil _) ?_)
  exact r_zret (pc := 40) C hQ dX5_fits_40 (by first | exact zb_01 _ | omega) rfl (jst_ri (by rfl) rfl)

set_option maxRecDepth 100000 in
set_option maxHeartbeats 4000000 in
theorem c_X5_fits63 (l : Launch) (G : GT) (c : Int) (hc : -1 ≤ c ∧ c ≤ 255) : Cn l yX5_fits cX5_fits 2 (Option.some .boolean) ({ frames := 8, cells := 0, slots := 0, locals := 179 }) G [.int (iI 63), .int (iI c)] (w0) (jst (some (.int (iI (zb (sDg c))))) (w0)) := by
  refine Cn_in RX5 [some (.int (iI 63)), some (.int (iI c))] (by decide +kernel) rfl rfl rfl (Nat.le_of_ble_eq_true rfl) (fun K C hQ => ?_)
  have hk1 := sKx_k c
  have hk2 := sKind_r c
  refine r_iload_n (pc := 0) C 0 dX5_fits_0 rfl rfl ?_
  refine r_look (pc := 1) (tgt := 36) (off := 35) C dX5_fits_1 (by omega) (by decide) (by first | rfl | decide) (by decide) ?_
  refine r_iload_n (pc := 36) C 1 dX5_fits_36 rfl rfl ?_
  refine r_callS (pc := 37) (is := []) C YX5_isDigit dX5_fits_37 tw_277 (c_X5_isDigit l G _ (by first | assumption | omega | exact zand_rng _ _ | exact zor_rng _ _ | exact zxor_rng _ _ | exact BT.r (IT.b (by assumption)) _ _)) rfl (by decide) rfl rfl (Nat.le_of_ble_eq_true rfl) ⟨rfl, rfl, by decide, by decide⟩ (jst_i (ups_nil _) ?_)
  exact r_zret (pc := 40) C hQ dX5_fits_40 (by first | exact zb_01 _ | omega) rfl (jst_ri (by rfl) rfl)

set_option maxRecDepth 100000 in
set_option maxHeartbeats 4000000 in
theorem c_X5_fits107 (l : Launch) (G : GT) (c : Int) (hc : -1 ≤ c ∧ c ≤ 255) : Cn l yX5_fits cX5_fits 2 (Option.some .boolean) ({ frames := 8, cells := 0, slots := 0, locals := 179 }) G [.int (iI 107), .int (iI c)] (w0) (jst (some (.int (iI (zb (0 ≤ sKind c))))) (w0)) := by
  refine Cn_in RX5 [some (.int (iI 107)), some (.int (iI c))] (by decide +kernel) rfl rfl rfl (Nat.le_of_ble_eq_true rfl) (fun K C hQ => ?_)
  have hk1 := sKx_k c
  have hk2 := sKind_r c
  refine r_iload_n (pc := 0) C 0 dX5_fits_0 rfl rfl ?_
  refine r_look (pc := 1) (tgt := 41) (off := 40) C dX5_fits_1 (by omega) (by decide) (by first | rfl | decide) (by decide) ?_
  refine r_iload_n (pc := 41) C 1 dX5_fits_41 rfl rfl ?_
  refine r_callS (pc := 42) (is := []) C YX5_kindOf dX5_fits_42 tw_280 (c_X5_kindOf l G _ (by first | assumption | omega | exact zand_rng _ _ | exact zor_rng _ _ | exact zxor_rng _ _ | exact BT.r (IT.b (by assumption)) _ _)) rfl (by decide) rfl rfl (Nat.le_of_ble_eq_true rfl) ⟨rfl, rfl, by decide, by decide⟩ (jst_i (ups_nil _) ?_)
  refine r_if_lt (pc := 45) (tgt := 52) C dX5_fits_45 (by decide) (by first | omega | exact zand_rng _ _ | exact zor_rng _ _ | exact zxor_rng _ _ | exact BT.r (IT.b (by assumption)) _ _) (fun c45 => ?_) (fun c45 => ?_)
  · refine r_iconst (pc := 52) C dX5_fits_52 ?_
    exact r_zret (pc := 53) C hQ dX5_fits_53 (by decide) rfl (jst_ri (by exact (zb_f (by omega)).symm) rfl)
  · refine r_iconst (pc := 48) C dX5_fits_48 ?_
    refine r_goto (pc := 49) (tgt := 53) C dX5_fits_49 (by decide) ?_
    exact r_zret (pc := 53) C hQ dX5_fits_53 (by decide) rfl (jst_ri (by exact (zb_t (by omega)).symm) rfl)

set_option maxRecDepth 100000 in
set_option maxHeartbeats 4000000 in
theorem c_X5_fits59 (l : Launch) (G : GT) (c : Int) (hc : -1 ≤ c ∧ c ≤ 255) : Cn l yX5_fits cX5_fits 2 (Option.some .boolean) ({ frames := 8, cells := 0, slots := 0, locals := 179 }) G [.int (iI 59), .int (iI c)] (w0) (jst (some (.int (iI (zb (c = 59))))) (w0)) := by
  refine Cn_in RX5 [some (.int (iI 59)), some (.int (iI c))] (by decide +kernel) rfl rfl rfl (Nat.le_of_ble_eq_true rfl) (fun K C hQ => ?_)
  have hk1 := sKx_k c
  have hk2 := sKind_r c
  refine r_iload_n (pc := 0) C 0 dX5_fits_0 rfl rfl ?_
  refine r_look (pc := 1) (tgt := 54) (off := 53) C dX5_fits_1 (by omega) (by decide) (by first | rfl | decide) (by decide) ?_
  refine r_iload_n (pc := 54) C 1 dX5_fits_54 rfl rfl ?_
  refine r_iload_n (pc := 55) C 0 dX5_fits_55 rfl rfl ?_
  refine r_icmp_ne (pc := 56) (tgt := 63) C dX5_fits_56 (by decide) (by first | omega | exact zand_rng _ _ | exact zor_rng _ _ | exact zxor_rng _ _ | exact BT.r (IT.b (by assumption)) _ _) (by first | omega | exact zand_rng _ _ | exact zor_rng _ _ | exact zxor_rng _ _ | exact BT.r (IT.b (by assumption)) _ _) (fun c56 => ?_) (fun c56 => ?_)
  · refine r_iconst (pc := 63) C dX5_fits_63 ?_
    exact r_zret (pc := 64) C hQ dX5_fits_64 (by decide) rfl (jst_ri (by exact (zb_f (by omega)).symm) rfl)
  · refine r_iconst (pc := 59) C dX5_fits_59 ?_
    refine r_goto (pc := 60) (tgt := 64) C dX5_fits_60 (by decide) ?_
    exact r_zret (pc := 64) C hQ dX5_fits_64 (by decide) rfl (jst_ri (by exact (zb_t (by omega)).symm) rfl)

set_option maxRecDepth 100000 in
set_option maxHeartbeats 4000000 in
theorem c_X5_formBehind (l : Launch) (G : GT) (c : Int) (hc : -1 ≤ c ∧ c ≤ 255) : Cn l yX5_formBehind cX5_formBehind 1 (Option.some (.object "java/lang/String")) ({ frames := 0, cells := 0, slots := 0, locals := 0 }) G [.int (iI c)] (w0) (jst (some (.ref (G.2.2.2.1 (sFmN c)))) (w0)) := by
  refine Cn_in RX5 [some (.int (iI c))] (by decide +kernel) rfl rfl rfl (Nat.le_of_ble_eq_true rfl) (fun K C hQ => ?_)
  refine r_iload_n (pc := 0) C 0 dX5_formBehind_0 rfl rfl ?_
  by_cases s1_100 : c = 100
  · refine r_look (pc := 1) (tgt := 47) (off := 46) C dX5_formBehind_1 (by omega) (by decide) (by (try show Op.lookupswitch.offset _ _ _ = _); rw [s1_100]; (try exact z_osy)) (by decide) ?_
    refine r_ldcS (pc := 47) C dX5_formBehind_47  1 rfl ?_
    exact r_aret (pc := 49) C hQ (n := "java/lang/String") rfl dX5_formBehind_49 rfl (jst_ra (by unfold sFmN; (repeat (first | rw [if_pos (by omega)] | rw [if_neg (by omega)]))))
  by_cases s1_104 : c = 104
  · refine r_look (pc := 1) (tgt := 53) (off := 52) C dX5_formBehind_1 (by omega) (by decide) (by (try show Op.lookupswitch.offset _ _ _ = _); rw [z_osw s1_100]; rw [s1_104]; (try exact z_osy)) (by decide) ?_
    refine r_ldcS (pc := 53) C dX5_formBehind_53  3 rfl ?_
    exact r_aret (pc := 55) C hQ (n := "java/lang/String") rfl dX5_formBehind_55 rfl (jst_ra (by unfold sFmN; (repeat (first | rw [if_pos (by omega)] | rw [if_neg (by omega)]))))
  by_cases s1_108 : c = 108
  · refine r_look (pc := 1) (tgt := 44) (off := 43) C dX5_formBehind_1 (by omega) (by decide) (by (try show Op.lookupswitch.offset _ _ _ = _); rw [z_osw s1_100]; rw [z_osw s1_104]; rw [s1_108]; (try exact z_osy)) (by decide) ?_
    refine r_ldcS (pc := 44) C dX5_formBehind_44  0 rfl ?_
    exact r_aret (pc := 46) C hQ (n := "java/lang/String") rfl dX5_formBehind_46 rfl (jst_ra (by unfold sFmN; (repeat (first | rw [if_pos (by omega)] | rw [if_neg (by omega)]))))
  by_cases s1_111 : c = 111
  · refine r_look (pc := 1) (tgt := 50) (off := 49) C dX5_formBehind_1 (by omega) (by decide) (by (try show Op.lookupswitch.offset _ _ _ = _); rw [z_osw s1_100]; rw [z_osw s1_104]; rw [z_osw s1_108]; rw [s1_111]; (try exact z_osy)) (by decide) ?_
    refine r_ldcS (pc := 50) C dX5_formBehind_50  2 rfl ?_
    exact r_aret (pc := 52) C hQ (n := "java/lang/String") rfl dX5_formBehind_52 rfl (jst_ra (by unfold sFmN; (repeat (first | rw [if_pos (by omega)] | rw [if_neg (by omega)]))))
  refine r_look (pc := 1) (tgt := 56) (off := 55) C dX5_formBehind_1 (by omega) (by decide) (by (try show Op.lookupswitch.offset _ _ _ = _); rw [z_osw s1_100]; rw [z_osw s1_104]; rw [z_osw s1_108]; rw [z_osw s1_111]; (try rfl)) (by decide) ?_
  refine r_ldcS (pc := 56) C dX5_formBehind_56  4 rfl ?_
  exact r_aret (pc := 58) C hQ (n := "java/lang/String") rfl dX5_formBehind_58 rfl (jst_ra (by unfold sFmN; (repeat (first | rw [if_pos (by omega)] | rw [if_neg (by omega)]))))

set_option maxRecDepth 100000 in
set_option maxHeartbeats 4000000 in
theorem c_X5_endOfStatement (l : Launch) (G : GT) (h : Nat → Nat) (S : Tn) (p : Int) (hs0 : 0 ≤ S 0 0 ∧ S 0 0 ≤ 64) (hsl : ∀ j, 0 ≤ S 1 j ∧ S 1 j ≤ 255) (hp : 0 ≤ p ∧ p ≤ 64) : Cn l yX5_endOfStatement cX5_endOfStatement 6 (Option.some .int) ({ frames := 9, cells := 0, slots := 0, locals := 200 }) G [.ref (h 0), .int (iI p)] (wS G h S) (jst (some (.int (iI (sE (S 1) (S 0 0) p)))) (wS G h S)) := by
  refine Cn_in RX5 [some (.ref (h 0)), some (.int (iI p)), none, none, none, none] (by decide +kernel) rfl rfl rfl (Nat.le_of_ble_eq_true rfl) (fun K C hQ => ?_)
  have hsr := fun q => sg_r hsl (S 0 0) q
  have hs0p := hsr p
  refine r_aload_n (pc := 0) C 0 dX5_endOfStatement_0 rfl rfl ?_
  refine r_iload_n (pc := 1) C 1 dX5_endOfStatement_1 rfl rfl ?_
  refine r_callV (pc := 2) (is := [0]) C YX5_signAt dX5_endOfStatement_2 tw_210 (c_X5_signAt l G _ _ _ (by first | assumption | omega | exact zand_rng _ _ | exact zor_rng _ _ | exact zxor_rng _ _ | exact BT.r (IT.b (by assumption)) _ _) (by first | assumption | omega | exact zand_rng _ _ | exact zor_rng _ _ | exact zxor_rng _ _ | exact BT.r (IT.b (by assumption)) _ _)) 0 0 rfl rfl (ci := 5) rfl rfl rfl (by decide) rfl rfl (Nat.le_of_ble_eq_true rfl) ⟨rfl, rfl, by decide, by decide⟩ (jst_i (S_uall ..) ?_)
  refine r_callS (pc := 5) (is := []) C YX5_formBehind dX5_endOfStatement_5 tw_214 (c_X5_formBehind l G _ (hsr _)) rfl (by decide) rfl rfl (Nat.le_of_ble_eq_true rfl) ⟨rfl, rfl, by decide, by decide⟩ (jst_a (ups_nil _) ?_)
  refine r_astore_n (pc := 8) C 2 dX5_endOfStatement_8 rfl (Nat.le_of_ble_eq_true rfl) ?_
  have hfk : sg (S 1) (S 0 0) p = 108 ∨ sg (S 1) (S 0 0) p = 100 ∨ sg (S 1) (S 0 0) p = 111 ∨ sg (S 1) (S 0 0) p = 104 ∨ (¬ sg (S 1) (S 0 0) p = 108 ∧ ¬ sg (S 1) (S 0 0) p = 100 ∧ ¬ sg (S 1) (S 0 0) p = 111 ∧ ¬ sg (S 1) (S 0 0) p = 104) := by omega
  rcases hfk with kk0 | kk1 | kk2 | kk3 | kk4
  · rw [show sFmN (sg (S 1) (S 0 0) p) = 0 from by unfold sFmN; (repeat (first | rw [if_pos (by omega)] | rw [if_neg (by omega)]))]
    refine r_aload_n (pc := 9) C 2 dX5_endOfStatement_9 rfl rfl ?_
    refine r_callVS (pc := 10) (is := []) C YJ0_isEmpty_aae02 dX5_endOfStatement_10 tw_222 (c_J0_isEmpty_aae02 l G _ (by first | assumption | omega | exact zand_rng _ _ | exact zor_rng _ _ | exact zxor_rng _ _ | exact BT.r (IT.b (by assumption)) _ _)) 0 (by first | assumption | decide | omega) rfl rfl (by decide) rfl rfl (Nat.le_of_ble_eq_true rfl) ⟨rfl, rfl, by decide, by decide⟩ (jst_i (ups_nil _) ?_)
    rw [zb_f (p := ((lenJ.getD 0 0 : Nat) : Int) = 0) (by decide)]
    refine r_if_eq (pc := 13) (tgt := 20) C dX5_endOfStatement_13 (by decide) (by first | omega | exact zand_rng _ _ | exact zor_rng _ _ | exact zxor_rng _ _ | exact BT.r (IT.b (by assumption)) _ _) (fun c13 => ?_) (fun c13 => absurd c13 (by omega))
    refine r_iload_n (pc := 20) C 1 dX5_endOfStatement_20 rfl rfl ?_
    refine r_iconst (pc := 21) C dX5_endOfStatement_21 ?_
    refine r_iadd (pc := 22) C dX5_endOfStatement_22 ?_
    refine r_istore_n (pc := 23) C 3 dX5_endOfStatement_23 rfl (Nat.le_of_ble_eq_true rfl) ?_
    refine r_iconst (pc := 24) C dX5_endOfStatement_24 ?_
    refine r_istore (pc := 25) C dX5_endOfStatement_25 (Nat.le_of_ble_eq_true rfl) ?_
    refine r_iload (pc := 27) C dX5_endOfStatement_27 rfl ?_
    refine r_aload_n (pc := 29) C 2 dX5_endOfStatement_29 rfl rfl ?_
    refine r_callVS (pc := 30) (is := []) C YJ0_length_8abf5 dX5_endOfStatement_30 tw_226 (c_J0_length_8abf5 l G _ (by first | assumption | omega | exact zand_rng _ _ | exact zor_rng _ _ | exact zxor_rng _ _ | exact BT.r (IT.b (by assumption)) _ _)) 0 (by first | assumption | decide | omega) rfl rfl (by decide) rfl rfl (Nat.le_of_ble_eq_true rfl) ⟨rfl, rfl, by decide, by decide⟩ (jst_i (ups_nil _) ?_)
    rw [show ((lenJ.getD 0 0 : Nat) : Int) = 3 from rfl]
    refine r_icmp_ge (pc := 33) (tgt := 80) C dX5_endOfStatement_33 (by decide) (by first | omega | exact zand_rng _ _ | exact zor_rng _ _ | exact zxor_rng _ _ | exact BT.r (IT.b (by assumption)) _ _) (by first | omega | exact zand_rng _ _ | exact zor_rng _ _ | exact zxor_rng _ _ | exact BT.r (IT.b (by assumption)) _ _) (fun c33 => absurd c33 (by omega)) (fun c33 => ?_)
    refine r_aload_n (pc := 36) C 2 dX5_endOfStatement_36 rfl rfl ?_
    refine r_iload (pc := 37) C dX5_endOfStatement_37 rfl ?_
    refine r_callVS (pc := 39) (is := []) C YJ0_charAt_5068e dX5_endOfStatement_39 tw_236 (c_J0_charAt_5068e l G _ _ (by first | assumption | omega | exact zand_rng _ _ | exact zor_rng _ _ | exact zxor_rng _ _ | exact BT.r (IT.b (by assumption)) _ _) (by decide)) 0 (by first | assumption | decide | omega) rfl rfl (by decide) rfl rfl (Nat.le_of_ble_eq_true rfl) ⟨rfl, rfl, by decide, by decide⟩ (jst_i (ups_nil _) ?_)
    rw [show sCh 0 (0) = 57 from by decide]
    refine r_istore (pc := 42) C dX5_endOfStatement_42 (Nat.le_of_ble_eq_true rfl) ?_
    refine r_iload (pc := 44) C dX5_endOfStatement_44 rfl ?_
    refine r_aload_n (pc := 46) C 0 dX5_endOfStatement_46 rfl rfl ?_
    refine r_iload_n (pc := 47) C 3 dX5_endOfStatement_47 rfl rfl ?_
    refine r_callV (pc := 48) (is := [0]) C YX5_signAt dX5_endOfStatement_48 tw_210 (c_X5_signAt l G _ _ _ (by first | assumption | omega | exact zand_rng _ _ | exact zor_rng _ _ | exact zxor_rng _ _ | exact BT.r (IT.b (by assumption)) _ _) (by first | assumption | omega | exact zand_rng _ _ | exact zor_rng _ _ | exact zxor_rng _ _ | exact BT.r (IT.b (by assumption)) _ _)) 0 0 rfl rfl (ci := 5) rfl rfl rfl (by decide) rfl rfl (Nat.le_of_ble_eq_true rfl) ⟨rfl, rfl, by decide, by decide⟩ (jst_i (S_uall ..) ?_)
    refine r_callS (pc := 51) (is := []) C YX5_fits dX5_endOfStatement_51 tw_274 (c_X5_fits57 l G _ (hsr _)) rfl (by decide) rfl rfl (Nat.le_of_ble_eq_true rfl) ⟨rfl, rfl, by decide, by decide⟩ (jst_i (ups_nil _) ?_)
    refine r_ifb_eq (pc := 54) (tgt := 63) C dX5_endOfStatement_54 (by decide) (fun c54 => ?_) (fun c54 => ?_)
    · refine r_iload (pc := 63) C dX5_endOfStatement_63 rfl ?_
      refine r_bipush (pc := 65) C dX5_endOfStatement_65 (by decide) ?_
      refine r_icmp_eq (pc := 67) (tgt := 74) C dX5_endOfStatement_67 (by decide) (by first | omega | exact zand_rng _ _ | exact zor_rng _ _ | exact zxor_rng _ _ | exact BT.r (IT.b (by assumption)) _ _) (by first | omega | exact zand_rng _ _ | exact zor_rng _ _ | exact zxor_rng _ _ | exact BT.r (IT.b (by assumption)) _ _) (fun c67 => absurd c67 (by omega)) (fun c67 => ?_)
      refine r_iconst (pc := 70) C dX5_endOfStatement_70 ?_
      refine r_iload_n (pc := 71) C 3 dX5_endOfStatement_71 rfl rfl ?_
      refine r_isub (pc := 72) C dX5_endOfStatement_72 ?_
      exact r_iret (pc := 73) C hQ dX5_endOfStatement_73 rfl (jst_ri (by unfold sE sED sEK sES; (repeat (first | rw [if_pos (by first | assumption | omega)] | rw [if_neg (by first | assumption | omega)])); (try omega)) rfl)
    · refine r_iinc (pc := 57) C dX5_endOfStatement_57 rfl ?_
      refine r_goto (pc := 60) (tgt := 74) C dX5_endOfStatement_60 (by decide) ?_
      refine r_iinc (pc := 74) C dX5_endOfStatement_74 rfl ?_
      refine r_goto (pc := 77) (tgt := 27) C dX5_endOfStatement_77 (by decide) ?_
      refine r_iload (pc := 27) C dX5_endOfStatement_27 rfl ?_
      refine r_aload_n (pc := 29) C 2 dX5_endOfStatement_29 rfl rfl ?_
      refine r_callVS (pc := 30) (is := []) C YJ0_length_8abf5 dX5_endOfStatement_30 tw_226 (c_J0_length_8abf5 l G _ (by first | assumption | omega | exact zand_rng _ _ | exact zor_rng _ _ | exact zxor_rng _ _ | exact BT.r (IT.b (by assumption)) _ _)) 0 (by first | assumption | decide | omega) rfl rfl (by decide) rfl rfl (Nat.le_of_ble_eq_true rfl) ⟨rfl, rfl, by decide, by decide⟩ (jst_i (ups_nil _) ?_)
      rw [show ((lenJ.getD 0 0 : Nat) : Int) = 3 from rfl]
      refine r_icmp_ge (pc := 33) (tgt := 80) C dX5_endOfStatement_33 (by decide) (by first | omega | exact zand_rng _ _ | exact zor_rng _ _ | exact zxor_rng _ _ | exact BT.r (IT.b (by assumption)) _ _) (by first | omega | exact zand_rng _ _ | exact zor_rng _ _ | exact zxor_rng _ _ | exact BT.r (IT.b (by assumption)) _ _) (fun c33 => absurd c33 (by omega)) (fun c33 => ?_)
      refine r_aload_n (pc := 36) C 2 dX5_endOfStatement_36 rfl rfl ?_
      refine r_iload (pc := 37) C dX5_endOfStatement_37 rfl ?_
      refine r_callVS (pc := 39) (is := []) C YJ0_charAt_5068e dX5_endOfStatement_39 tw_236 (c_J0_charAt_5068e l G _ _ (by first | assumption | omega | exact zand_rng _ _ | exact zor_rng _ _ | exact zxor_rng _ _ | exact BT.r (IT.b (by assumption)) _ _) (by decide)) 0 (by first | assumption | decide | omega) rfl rfl (by decide) rfl rfl (Nat.le_of_ble_eq_true rfl) ⟨rfl, rfl, by decide, by decide⟩ (jst_i (ups_nil _) ?_)
      rw [show sCh 0 (0 + 1) = 57 from by decide]
      refine r_istore (pc := 42) C dX5_endOfStatement_42 (Nat.le_of_ble_eq_true rfl) ?_
      refine r_iload (pc := 44) C dX5_endOfStatement_44 rfl ?_
      refine r_aload_n (pc := 46) C 0 dX5_endOfStatement_46 rfl rfl ?_
      refine r_iload_n (pc := 47) C 3 dX5_endOfStatement_47 rfl rfl ?_
      refine r_callV (pc := 48) (is := [0]) C YX5_signAt dX5_endOfStatement_48 tw_210 (c_X5_signAt l G _ _ _ (by first | assumption | omega | exact zand_rng _ _ | exact zor_rng _ _ | exact zxor_rng _ _ | exact BT.r (IT.b (by assumption)) _ _) (by first | assumption | omega | exact zand_rng _ _ | exact zor_rng _ _ | exact zxor_rng _ _ | exact BT.r (IT.b (by assumption)) _ _)) 0 0 rfl rfl (ci := 5) rfl rfl rfl (by decide) rfl rfl (Nat.le_of_ble_eq_true rfl) ⟨rfl, rfl, by decide, by decide⟩ (jst_i (S_uall ..) ?_)
      refine r_callS (pc := 51) (is := []) C YX5_fits dX5_endOfStatement_51 tw_274 (c_X5_fits57 l G _ (hsr _)) rfl (by decide) rfl rfl (Nat.le_of_ble_eq_true rfl) ⟨rfl, rfl, by decide, by decide⟩ (jst_i (ups_nil _) ?_)
      refine r_ifb_eq (pc := 54) (tgt := 63) C dX5_endOfStatement_54 (by decide) (fun c54 => ?_) (fun c54 => ?_)
      · refine r_iload (pc := 63) C dX5_endOfStatement_63 rfl ?_
        refine r_bipush (pc := 65) C dX5_endOfStatement_65 (by decide) ?_
        refine r_icmp_eq (pc := 67) (tgt := 74) C dX5_endOfStatement_67 (by decide) (by first | omega | exact zand_rng _ _ | exact zor_rng _ _ | exact zxor_rng _ _ | exact BT.r (IT.b (by assumption)) _ _) (by first | omega | exact zand_rng _ _ | exact zor_rng _ _ | exact zxor_rng _ _ | exact BT.r (IT.b (by assumption)) _ _) (fun c67 => absurd c67 (by omega)) (fun c67 => ?_)
        refine r_iconst (pc := 70) C dX5_endOfStatement_70 ?_
        refine r_iload_n (pc := 71) C 3 dX5_endOfStatement_71 rfl rfl ?_
        refine r_isub (pc := 72) C dX5_endOfStatement_72 ?_
        exact r_iret (pc := 73) C hQ dX5_endOfStatement_73 rfl (jst_ri (by unfold sE sED sEK sES; (repeat (first | rw [if_pos (by first | assumption | omega)] | rw [if_neg (by first | assumption | omega)])); (try omega)) rfl)
      · refine r_iinc (pc := 57) C dX5_endOfStatement_57 rfl ?_
        refine r_goto (pc := 60) (tgt := 74) C dX5_endOfStatement_60 (by decide) ?_
        refine r_iinc (pc := 74) C dX5_endOfStatement_74 rfl ?_
        refine r_goto (pc := 77) (tgt := 27) C dX5_endOfStatement_77 (by decide) ?_
        refine r_iload (pc := 27) C dX5_endOfStatement_27 rfl ?_
        refine r_aload_n (pc := 29) C 2 dX5_endOfStatement_29 rfl rfl ?_
        refine r_callVS (pc := 30) (is := []) C YJ0_length_8abf5 dX5_endOfStatement_30 tw_226 (c_J0_length_8abf5 l G _ (by first | assumption | omega | exact zand_rng _ _ | exact zor_rng _ _ | exact zxor_rng _ _ | exact BT.r (IT.b (by assumption)) _ _)) 0 (by first | assumption | decide | omega) rfl rfl (by decide) rfl rfl (Nat.le_of_ble_eq_true rfl) ⟨rfl, rfl, by decide, by decide⟩ (jst_i (ups_nil _) ?_)
        rw [show ((lenJ.getD 0 0 : Nat) : Int) = 3 from rfl]
        refine r_icmp_ge (pc := 33) (tgt := 80) C dX5_endOfStatement_33 (by decide) (by first | omega | exact zand_rng _ _ | exact zor_rng _ _ | exact zxor_rng _ _ | exact BT.r (IT.b (by assumption)) _ _) (by first | omega | exact zand_rng _ _ | exact zor_rng _ _ | exact zxor_rng _ _ | exact BT.r (IT.b (by assumption)) _ _) (fun c33 => absurd c33 (by omega)) (fun c33 => ?_)
        refine r_aload_n (pc := 36) C 2 dX5_endOfStatement_36 rfl rfl ?_
        refine r_iload (pc := 37) C dX5_endOfStatement_37 rfl ?_
        refine r_callVS (pc := 39) (is := []) C YJ0_charAt_5068e dX5_endOfStatement_39 tw_236 (c_J0_charAt_5068e l G _ _ (by first | assumption | omega | exact zand_rng _ _ | exact zor_rng _ _ | exact zxor_rng _ _ | exact BT.r (IT.b (by assumption)) _ _) (by decide)) 0 (by first | assumption | decide | omega) rfl rfl (by decide) rfl rfl (Nat.le_of_ble_eq_true rfl) ⟨rfl, rfl, by decide, by decide⟩ (jst_i (ups_nil _) ?_)
        rw [show sCh 0 (0 + 1 + 1) = 59 from by decide]
        refine r_istore (pc := 42) C dX5_endOfStatement_42 (Nat.le_of_ble_eq_true rfl) ?_
        refine r_iload (pc := 44) C dX5_endOfStatement_44 rfl ?_
        refine r_aload_n (pc := 46) C 0 dX5_endOfStatement_46 rfl rfl ?_
        refine r_iload_n (pc := 47) C 3 dX5_endOfStatement_47 rfl rfl ?_
        refine r_callV (pc := 48) (is := [0]) C YX5_signAt dX5_endOfStatement_48 tw_210 (c_X5_signAt l G _ _ _ (by first | assumption | omega | exact zand_rng _ _ | exact zor_rng _ _ | exact zxor_rng _ _ | exact BT.r (IT.b (by assumption)) _ _) (by first | assumption | omega | exact zand_rng _ _ | exact zor_rng _ _ | exact zxor_rng _ _ | exact BT.r (IT.b (by assumption)) _ _)) 0 0 rfl rfl (ci := 5) rfl rfl rfl (by decide) rfl rfl (Nat.le_of_ble_eq_true rfl) ⟨rfl, rfl, by decide, by decide⟩ (jst_i (S_uall ..) ?_)
        refine r_callS (pc := 51) (is := []) C YX5_fits dX5_endOfStatement_51 tw_274 (c_X5_fits59 l G _ (hsr _)) rfl (by decide) rfl rfl (Nat.le_of_ble_eq_true rfl) ⟨rfl, rfl, by decide, by decide⟩ (jst_i (ups_nil _) ?_)
        refine r_ifb_eq (pc := 54) (tgt := 63) C dX5_endOfStatement_54 (by decide) (fun c54 => ?_) (fun c54 => ?_)
        · refine r_iload (pc := 63) C dX5_endOfStatement_63 rfl ?_
          refine r_bipush (pc := 65) C dX5_endOfStatement_65 (by decide) ?_
          refine r_icmp_eq (pc := 67) (tgt := 74) C dX5_endOfStatement_67 (by decide) (by first | omega | exact zand_rng _ _ | exact zor_rng _ _ | exact zxor_rng _ _ | exact BT.r (IT.b (by assumption)) _ _) (by first | omega | exact zand_rng _ _ | exact zor_rng _ _ | exact zxor_rng _ _ | exact BT.r (IT.b (by assumption)) _ _) (fun c67 => absurd c67 (by omega)) (fun c67 => ?_)
          refine r_iconst (pc := 70) C dX5_endOfStatement_70 ?_
          refine r_iload_n (pc := 71) C 3 dX5_endOfStatement_71 rfl rfl ?_
          refine r_isub (pc := 72) C dX5_endOfStatement_72 ?_
          exact r_iret (pc := 73) C hQ dX5_endOfStatement_73 rfl (jst_ri (by unfold sE sED sEK sES; (repeat (first | rw [if_pos (by first | assumption | omega)] | rw [if_neg (by first | assumption | omega)])); (try omega)) rfl)
        · refine r_iinc (pc := 57) C dX5_endOfStatement_57 rfl ?_
          refine r_goto (pc := 60) (tgt := 74) C dX5_endOfStatement_60 (by decide) ?_
          refine r_iinc (pc := 74) C dX5_endOfStatement_74 rfl ?_
          refine r_goto (pc := 77) (tgt := 27) C dX5_endOfStatement_77 (by decide) ?_
          refine r_iload (pc := 27) C dX5_endOfStatement_27 rfl ?_
          refine r_aload_n (pc := 29) C 2 dX5_endOfStatement_29 rfl rfl ?_
          refine r_callVS (pc := 30) (is := []) C YJ0_length_8abf5 dX5_endOfStatement_30 tw_226 (c_J0_length_8abf5 l G _ (by first | assumption | omega | exact zand_rng _ _ | exact zor_rng _ _ | exact zxor_rng _ _ | exact BT.r (IT.b (by assumption)) _ _)) 0 (by first | assumption | decide | omega) rfl rfl (by decide) rfl rfl (Nat.le_of_ble_eq_true rfl) ⟨rfl, rfl, by decide, by decide⟩ (jst_i (ups_nil _) ?_)
          rw [show ((lenJ.getD 0 0 : Nat) : Int) = 3 from rfl]
          refine r_icmp_ge (pc := 33) (tgt := 80) C dX5_endOfStatement_33 (by decide) (by first | omega | exact zand_rng _ _ | exact zor_rng _ _ | exact zxor_rng _ _ | exact BT.r (IT.b (by assumption)) _ _) (by first | omega | exact zand_rng _ _ | exact zor_rng _ _ | exact zxor_rng _ _ | exact BT.r (IT.b (by assumption)) _ _) (fun c33 => ?_) (fun c33 => absurd c33 (by omega))
          refine r_iload_n (pc := 80) C 3 dX5_endOfStatement_80 rfl rfl ?_
          exact r_iret (pc := 81) C hQ dX5_endOfStatement_81 rfl (jst_ri (by unfold sE sED sEK sES; (repeat (first | rw [if_pos (by first | assumption | omega)] | rw [if_neg (by first | assumption | omega)])); (try omega)) rfl)
  · rw [show sFmN (sg (S 1) (S 0 0) p) = 1 from by unfold sFmN; (repeat (first | rw [if_pos (by omega)] | rw [if_neg (by omega)]))]
    refine r_aload_n (pc := 9) C 2 dX5_endOfStatement_9 rfl rfl ?_
    refine r_callVS (pc := 10) (is := []) C YJ0_isEmpty_aae02 dX5_endOfStatement_10 tw_222 (c_J0_isEmpty_aae02 l G _ (by first | assumption | omega | exact zand_rng _ _ | exact zor_rng _ _ | exact zxor_rng _ _ | exact BT.r (IT.b (by assumption)) _ _)) 1 (by first | assumption | decide | omega) rfl rfl (by decide) rfl rfl (Nat.le_of_ble_eq_true rfl) ⟨rfl, rfl, by decide, by decide⟩ (jst_i (ups_nil _) ?_)
    rw [zb_f (p := ((lenJ.getD 1 0 : Nat) : Int) = 0) (by decide)]
    refine r_if_eq (pc := 13) (tgt := 20) C dX5_endOfStatement_13 (by decide) (by first | omega | exact zand_rng _ _ | exact zor_rng _ _ | exact zxor_rng _ _ | exact BT.r (IT.b (by assumption)) _ _) (fun c13 => ?_) (fun c13 => absurd c13 (by omega))
    refine r_iload_n (pc := 20) C 1 dX5_endOfStatement_20 rfl rfl ?_
    refine r_iconst (pc := 21) C dX5_endOfStatement_21 ?_
    refine r_iadd (pc := 22) C dX5_endOfStatement_22 ?_
    refine r_istore_n (pc := 23) C 3 dX5_endOfStatement_23 rfl (Nat.le_of_ble_eq_true rfl) ?_
    refine r_iconst (pc := 24) C dX5_endOfStatement_24 ?_
    refine r_istore (pc := 25) C dX5_endOfStatement_25 (Nat.le_of_ble_eq_true rfl) ?_
    refine r_iload (pc := 27) C dX5_endOfStatement_27 rfl ?_
    refine r_aload_n (pc := 29) C 2 dX5_endOfStatement_29 rfl rfl ?_
    refine r_callVS (pc := 30) (is := []) C YJ0_length_8abf5 dX5_endOfStatement_30 tw_226 (c_J0_length_8abf5 l G _ (by first | assumption | omega | exact zand_rng _ _ | exact zor_rng _ _ | exact zxor_rng _ _ | exact BT.r (IT.b (by assumption)) _ _)) 1 (by first | assumption | decide | omega) rfl rfl (by decide) rfl rfl (Nat.le_of_ble_eq_true rfl) ⟨rfl, rfl, by decide, by decide⟩ (jst_i (ups_nil _) ?_)
    rw [show ((lenJ.getD 1 0 : Nat) : Int) = 4 from rfl]
    refine r_icmp_ge (pc := 33) (tgt := 80) C dX5_endOfStatement_33 (by decide) (by first | omega | exact zand_rng _ _ | exact zor_rng _ _ | exact zxor_rng _ _ | exact BT.r (IT.b (by assumption)) _ _) (by first | omega | exact zand_rng _ _ | exact zor_rng _ _ | exact zxor_rng _ _ | exact BT.r (IT.b (by assumption)) _ _) (fun c33 => absurd c33 (by omega)) (fun c33 => ?_)
    refine r_aload_n (pc := 36) C 2 dX5_endOfStatement_36 rfl rfl ?_
    refine r_iload (pc := 37) C dX5_endOfStatement_37 rfl ?_
    refine r_callVS (pc := 39) (is := []) C YJ0_charAt_5068e dX5_endOfStatement_39 tw_236 (c_J0_charAt_5068e l G _ _ (by first | assumption | omega | exact zand_rng _ _ | exact zor_rng _ _ | exact zxor_rng _ _ | exact BT.r (IT.b (by assumption)) _ _) (by decide)) 1 (by first | assumption | decide | omega) rfl rfl (by decide) rfl rfl (Nat.le_of_ble_eq_true rfl) ⟨rfl, rfl, by decide, by decide⟩ (jst_i (ups_nil _) ?_)
    rw [show sCh 1 (0) = 107 from by decide]
    refine r_istore (pc := 42) C dX5_endOfStatement_42 (Nat.le_of_ble_eq_true rfl) ?_
    refine r_iload (pc := 44) C dX5_endOfStatement_44 rfl ?_
    refine r_aload_n (pc := 46) C 0 dX5_endOfStatement_46 rfl rfl ?_
    refine r_iload_n (pc := 47) C 3 dX5_endOfStatement_47 rfl rfl ?_
    refine r_callV (pc := 48) (is := [0]) C YX5_signAt dX5_endOfStatement_48 tw_210 (c_X5_signAt l G _ _ _ (by first | assumption | omega | exact zand_rng _ _ | exact zor_rng _ _ | exact zxor_rng _ _ | exact BT.r (IT.b (by assumption)) _ _) (by first | assumption | omega | exact zand_rng _ _ | exact zor_rng _ _ | exact zxor_rng _ _ | exact BT.r (IT.b (by assumption)) _ _)) 0 0 rfl rfl (ci := 5) rfl rfl rfl (by decide) rfl rfl (Nat.le_of_ble_eq_true rfl) ⟨rfl, rfl, by decide, by decide⟩ (jst_i (S_uall ..) ?_)
    refine r_callS (pc := 51) (is := []) C YX5_fits dX5_endOfStatement_51 tw_274 (c_X5_fits107 l G _ (hsr _)) rfl (by decide) rfl rfl (Nat.le_of_ble_eq_true rfl) ⟨rfl, rfl, by decide, by decide⟩ (jst_i (ups_nil _) ?_)
    refine r_ifb_eq (pc := 54) (tgt := 63) C dX5_endOfStatement_54 (by decide) (fun c54 => ?_) (fun c54 => ?_)
    · refine r_iload (pc := 63) C dX5_endOfStatement_63 rfl ?_
      refine r_bipush (pc := 65) C dX5_endOfStatement_65 (by decide) ?_
      refine r_icmp_eq (pc := 67) (tgt := 74) C dX5_endOfStatement_67 (by decide) (by first | omega | exact zand_rng _ _ | exact zor_rng _ _ | exact zxor_rng _ _ | exact BT.r (IT.b (by assumption)) _ _) (by first | omega | exact zand_rng _ _ | exact zor_rng _ _ | exact zxor_rng _ _ | exact BT.r (IT.b (by assumption)) _ _) (fun c67 => absurd c67 (by omega)) (fun c67 => ?_)
      refine r_iconst (pc := 70) C dX5_endOfStatement_70 ?_
      refine r_iload_n (pc := 71) C 3 dX5_endOfStatement_71 rfl rfl ?_
      refine r_isub (pc := 72) C dX5_endOfStatement_72 ?_
      exact r_iret (pc := 73) C hQ dX5_endOfStatement_73 rfl (jst_ri (by unfold sE sED sEK sES; (repeat (first | rw [if_pos (by first | assumption | omega)] | rw [if_neg (by first | assumption | omega)])); (try omega)) rfl)
    · refine r_iinc (pc := 57) C dX5_endOfStatement_57 rfl ?_
      refine r_goto (pc := 60) (tgt := 74) C dX5_endOfStatement_60 (by decide) ?_
      refine r_iinc (pc := 74) C dX5_endOfStatement_74 rfl ?_
      refine r_goto (pc := 77) (tgt := 27) C dX5_endOfStatement_77 (by decide) ?_
      refine r_iload (pc := 27) C dX5_endOfStatement_27 rfl ?_
      refine r_aload_n (pc := 29) C 2 dX5_endOfStatement_29 rfl rfl ?_
      refine r_callVS (pc := 30) (is := []) C YJ0_length_8abf5 dX5_endOfStatement_30 tw_226 (c_J0_length_8abf5 l G _ (by first | assumption | omega | exact zand_rng _ _ | exact zor_rng _ _ | exact zxor_rng _ _ | exact BT.r (IT.b (by assumption)) _ _)) 1 (by first | assumption | decide | omega) rfl rfl (by decide) rfl rfl (Nat.le_of_ble_eq_true rfl) ⟨rfl, rfl, by decide, by decide⟩ (jst_i (ups_nil _) ?_)
      rw [show ((lenJ.getD 1 0 : Nat) : Int) = 4 from rfl]
      refine r_icmp_ge (pc := 33) (tgt := 80) C dX5_endOfStatement_33 (by decide) (by first | omega | exact zand_rng _ _ | exact zor_rng _ _ | exact zxor_rng _ _ | exact BT.r (IT.b (by assumption)) _ _) (by first | omega | exact zand_rng _ _ | exact zor_rng _ _ | exact zxor_rng _ _ | exact BT.r (IT.b (by assumption)) _ _) (fun c33 => absurd c33 (by omega)) (fun c33 => ?_)
      refine r_aload_n (pc := 36) C 2 dX5_endOfStatement_36 rfl rfl ?_
      refine r_iload (pc := 37) C dX5_endOfStatement_37 rfl ?_
      refine r_callVS (pc := 39) (is := []) C YJ0_charAt_5068e dX5_endOfStatement_39 tw_236 (c_J0_charAt_5068e l G _ _ (by first | assumption | omega | exact zand_rng _ _ | exact zor_rng _ _ | exact zxor_rng _ _ | exact BT.r (IT.b (by assumption)) _ _) (by decide)) 1 (by first | assumption | decide | omega) rfl rfl (by decide) rfl rfl (Nat.le_of_ble_eq_true rfl) ⟨rfl, rfl, by decide, by decide⟩ (jst_i (ups_nil _) ?_)
      rw [show sCh 1 (0 + 1) = 57 from by decide]
      refine r_istore (pc := 42) C dX5_endOfStatement_42 (Nat.le_of_ble_eq_true rfl) ?_
      refine r_iload (pc := 44) C dX5_endOfStatement_44 rfl ?_
      refine r_aload_n (pc := 46) C 0 dX5_endOfStatement_46 rfl rfl ?_
      refine r_iload_n (pc := 47) C 3 dX5_endOfStatement_47 rfl rfl ?_
      refine r_callV (pc := 48) (is := [0]) C YX5_signAt dX5_endOfStatement_48 tw_210 (c_X5_signAt l G _ _ _ (by first | assumption | omega | exact zand_rng _ _ | exact zor_rng _ _ | exact zxor_rng _ _ | exact BT.r (IT.b (by assumption)) _ _) (by first | assumption | omega | exact zand_rng _ _ | exact zor_rng _ _ | exact zxor_rng _ _ | exact BT.r (IT.b (by assumption)) _ _)) 0 0 rfl rfl (ci := 5) rfl rfl rfl (by decide) rfl rfl (Nat.le_of_ble_eq_true rfl) ⟨rfl, rfl, by decide, by decide⟩ (jst_i (S_uall ..) ?_)
      refine r_callS (pc := 51) (is := []) C YX5_fits dX5_endOfStatement_51 tw_274 (c_X5_fits57 l G _ (hsr _)) rfl (by decide) rfl rfl (Nat.le_of_ble_eq_true rfl) ⟨rfl, rfl, by decide, by decide⟩ (jst_i (ups_nil _) ?_)
      refine r_ifb_eq (pc := 54) (tgt := 63) C dX5_endOfStatement_54 (by decide) (fun c54 => ?_) (fun c54 => ?_)
      · refine r_iload (pc := 63) C dX5_endOfStatement_63 rfl ?_
        refine r_bipush (pc := 65) C dX5_endOfStatement_65 (by decide) ?_
        refine r_icmp_eq (pc := 67) (tgt := 74) C dX5_endOfStatement_67 (by decide) (by first | omega | exact zand_rng _ _ | exact zor_rng _ _ | exact zxor_rng _ _ | exact BT.r (IT.b (by assumption)) _ _) (by first | omega | exact zand_rng _ _ | exact zor_rng _ _ | exact zxor_rng _ _ | exact BT.r (IT.b (by assumption)) _ _) (fun c67 => absurd c67 (by omega)) (fun c67 => ?_)
        refine r_iconst (pc := 70) C dX5_endOfStatement_70 ?_
        refine r_iload_n (pc := 71) C 3 dX5_endOfStatement_71 rfl rfl ?_
        refine r_isub (pc := 72) C dX5_endOfStatement_72 ?_
        exact r_iret (pc := 73) C hQ dX5_endOfStatement_73 rfl (jst_ri (by unfold sE sED sEK sES; (repeat (first | rw [if_pos (by first | assumption | omega)] | rw [if_neg (by first | assumption | omega)])); (try omega)) rfl)
      · refine r_iinc (pc := 57) C dX5_endOfStatement_57 rfl ?_
        refine r_goto (pc := 60) (tgt := 74) C dX5_endOfStatement_60 (by decide) ?_
        refine r_iinc (pc := 74) C dX5_endOfStatement_74 rfl ?_
        refine r_goto (pc := 77) (tgt := 27) C dX5_endOfStatement_77 (by decide) ?_
        refine r_iload (pc := 27) C dX5_endOfStatement_27 rfl ?_
        refine r_aload_n (pc := 29) C 2 dX5_endOfStatement_29 rfl rfl ?_
        refine r_callVS (pc := 30) (is := []) C YJ0_length_8abf5 dX5_endOfStatement_30 tw_226 (c_J0_length_8abf5 l G _ (by first | assumption | omega | exact zand_rng _ _ | exact zor_rng _ _ | exact zxor_rng _ _ | exact BT.r (IT.b (by assumption)) _ _)) 1 (by first | assumption | decide | omega) rfl rfl (by decide) rfl rfl (Nat.le_of_ble_eq_true rfl) ⟨rfl, rfl, by decide, by decide⟩ (jst_i (ups_nil _) ?_)
        rw [show ((lenJ.getD 1 0 : Nat) : Int) = 4 from rfl]
        refine r_icmp_ge (pc := 33) (tgt := 80) C dX5_endOfStatement_33 (by decide) (by first | omega | exact zand_rng _ _ | exact zor_rng _ _ | exact zxor_rng _ _ | exact BT.r (IT.b (by assumption)) _ _) (by first | omega | exact zand_rng _ _ | exact zor_rng _ _ | exact zxor_rng _ _ | exact BT.r (IT.b (by assumption)) _ _) (fun c33 => absurd c33 (by omega)) (fun c33 => ?_)
        refine r_aload_n (pc := 36) C 2 dX5_endOfStatement_36 rfl rfl ?_
        refine r_iload (pc := 37) C dX5_endOfStatement_37 rfl ?_
        refine r_callVS (pc := 39) (is := []) C YJ0_charAt_5068e dX5_endOfStatement_39 tw_236 (c_J0_charAt_5068e l G _ _ (by first | assumption | omega | exact zand_rng _ _ | exact zor_rng _ _ | exact zxor_rng _ _ | exact BT.r (IT.b (by assumption)) _ _) (by decide)) 1 (by first | assumption | decide | omega) rfl rfl (by decide) rfl rfl (Nat.le_of_ble_eq_true rfl) ⟨rfl, rfl, by decide, by decide⟩ (jst_i (ups_nil _) ?_)
        rw [show sCh 1 (0 + 1 + 1) = 57 from by decide]
        refine r_istore (pc := 42) C dX5_endOfStatement_42 (Nat.le_of_ble_eq_true rfl) ?_
        refine r_iload (pc := 44) C dX5_endOfStatement_44 rfl ?_
        refine r_aload_n (pc := 46) C 0 dX5_endOfStatement_46 rfl rfl ?_
        refine r_iload_n (pc := 47) C 3 dX5_endOfStatement_47 rfl rfl ?_
        refine r_callV (pc := 48) (is := [0]) C YX5_signAt dX5_endOfStatement_48 tw_210 (c_X5_signAt l G _ _ _ (by first | assumption | omega | exact zand_rng _ _ | exact zor_rng _ _ | exact zxor_rng _ _ | exact BT.r (IT.b (by assumption)) _ _) (by first | assumption | omega | exact zand_rng _ _ | exact zor_rng _ _ | exact zxor_rng _ _ | exact BT.r (IT.b (by assumption)) _ _)) 0 0 rfl rfl (ci := 5) rfl rfl rfl (by decide) rfl rfl (Nat.le_of_ble_eq_true rfl) ⟨rfl, rfl, by decide, by decide⟩ (jst_i (S_uall ..) ?_)
        refine r_callS (pc := 51) (is := []) C YX5_fits dX5_endOfStatement_51 tw_274 (c_X5_fits57 l G _ (hsr _)) rfl (by decide) rfl rfl (Nat.le_of_ble_eq_true rfl) ⟨rfl, rfl, by decide, by decide⟩ (jst_i (ups_nil _) ?_)
        refine r_ifb_eq (pc := 54) (tgt := 63) C dX5_endOfStatement_54 (by decide) (fun c54 => ?_) (fun c54 => ?_)
        · refine r_iload (pc := 63) C dX5_endOfStatement_63 rfl ?_
          refine r_bipush (pc := 65) C dX5_endOfStatement_65 (by decide) ?_
          refine r_icmp_eq (pc := 67) (tgt := 74) C dX5_endOfStatement_67 (by decide) (by first | omega | exact zand_rng _ _ | exact zor_rng _ _ | exact zxor_rng _ _ | exact BT.r (IT.b (by assumption)) _ _) (by first | omega | exact zand_rng _ _ | exact zor_rng _ _ | exact zxor_rng _ _ | exact BT.r (IT.b (by assumption)) _ _) (fun c67 => absurd c67 (by omega)) (fun c67 => ?_)
          refine r_iconst (pc := 70) C dX5_endOfStatement_70 ?_
          refine r_iload_n (pc := 71) C 3 dX5_endOfStatement_71 rfl rfl ?_
          refine r_isub (pc := 72) C dX5_endOfStatement_72 ?_
          exact r_iret (pc := 73) C hQ dX5_endOfStatement_73 rfl (jst_ri (by unfold sE sED sEK sES; (repeat (first | rw [if_pos (by first | assumption | omega)] | rw [if_neg (by first | assumption | omega)])); (try omega)) rfl)
        · refine r_iinc (pc := 57) C dX5_endOfStatement_57 rfl ?_
          refine r_goto (pc := 60) (tgt := 74) C dX5_endOfStatement_60 (by decide) ?_
          refine r_iinc (pc := 74) C dX5_endOfStatement_74 rfl ?_
          refine r_goto (pc := 77) (tgt := 27) C dX5_endOfStatement_77 (by decide) ?_
          refine r_iload (pc := 27) C dX5_endOfStatement_27 rfl ?_
          refine r_aload_n (pc := 29) C 2 dX5_endOfStatement_29 rfl rfl ?_
          refine r_callVS (pc := 30) (is := []) C YJ0_length_8abf5 dX5_endOfStatement_30 tw_226 (c_J0_length_8abf5 l G _ (by first | assumption | omega | exact zand_rng _ _ | exact zor_rng _ _ | exact zxor_rng _ _ | exact BT.r (IT.b (by assumption)) _ _)) 1 (by first | assumption | decide | omega) rfl rfl (by decide) rfl rfl (Nat.le_of_ble_eq_true rfl) ⟨rfl, rfl, by decide, by decide⟩ (jst_i (ups_nil _) ?_)
          rw [show ((lenJ.getD 1 0 : Nat) : Int) = 4 from rfl]
          refine r_icmp_ge (pc := 33) (tgt := 80) C dX5_endOfStatement_33 (by decide) (by first | omega | exact zand_rng _ _ | exact zor_rng _ _ | exact zxor_rng _ _ | exact BT.r (IT.b (by assumption)) _ _) (by first | omega | exact zand_rng _ _ | exact zor_rng _ _ | exact zxor_rng _ _ | exact BT.r (IT.b (by assumption)) _ _) (fun c33 => absurd c33 (by omega)) (fun c33 => ?_)
          refine r_aload_n (pc := 36) C 2 dX5_endOfStatement_36 rfl rfl ?_
          refine r_iload (pc := 37) C dX5_endOfStatement_37 rfl ?_
          refine r_callVS (pc := 39) (is := []) C YJ0_charAt_5068e dX5_endOfStatement_39 tw_236 (c_J0_charAt_5068e l G _ _ (by first | assumption | omega | exact zand_rng _ _ | exact zor_rng _ _ | exact zxor_rng _ _ | exact BT.r (IT.b (by assumption)) _ _) (by decide)) 1 (by first | assumption | decide | omega) rfl rfl (by decide) rfl rfl (Nat.le_of_ble_eq_true rfl) ⟨rfl, rfl, by decide, by decide⟩ (jst_i (ups_nil _) ?_)
          rw [show sCh 1 (0 + 1 + 1 + 1) = 59 from by decide]
          refine r_istore (pc := 42) C dX5_endOfStatement_42 (Nat.le_of_ble_eq_true rfl) ?_
          refine r_iload (pc := 44) C dX5_endOfStatement_44 rfl ?_
          refine r_aload_n (pc := 46) C 0 dX5_endOfStatement_46 rfl rfl ?_
          refine r_iload_n (pc := 47) C 3 dX5_endOfStatement_47 rfl rfl ?_
          refine r_callV (pc := 48) (is := [0]) C YX5_signAt dX5_endOfStatement_48 tw_210 (c_X5_signAt l G _ _ _ (by first | assumption | omega | exact zand_rng _ _ | exact zor_rng _ _ | exact zxor_rng _ _ | exact BT.r (IT.b (by assumption)) _ _) (by first | assumption | omega | exact zand_rng _ _ | exact zor_rng _ _ | exact zxor_rng _ _ | exact BT.r (IT.b (by assumption)) _ _)) 0 0 rfl rfl (ci := 5) rfl rfl rfl (by decide) rfl rfl (Nat.le_of_ble_eq_true rfl) ⟨rfl, rfl, by decide, by decide⟩ (jst_i (S_uall ..) ?_)
          refine r_callS (pc := 51) (is := []) C YX5_fits dX5_endOfStatement_51 tw_274 (c_X5_fits59 l G _ (hsr _)) rfl (by decide) rfl rfl (Nat.le_of_ble_eq_true rfl) ⟨rfl, rfl, by decide, by decide⟩ (jst_i (ups_nil _) ?_)
          refine r_ifb_eq (pc := 54) (tgt := 63) C dX5_endOfStatement_54 (by decide) (fun c54 => ?_) (fun c54 => ?_)
          · refine r_iload (pc := 63) C dX5_endOfStatement_63 rfl ?_
            refine r_bipush (pc := 65) C dX5_endOfStatement_65 (by decide) ?_
            refine r_icmp_eq (pc := 67) (tgt := 74) C dX5_endOfStatement_67 (by decide) (by first | omega | exact zand_rng _ _ | exact zor_rng _ _ | exact zxor_rng _ _ | exact BT.r (IT.b (by assumption)) _ _) (by first | omega | exact zand_rng _ _ | exact zor_rng _ _ | exact zxor_rng _ _ | exact BT.r (IT.b (by assumption)) _ _) (fun c67 => absurd c67 (by omega)) (fun c67 => ?_)
            refine r_iconst (pc := 70) C dX5_endOfStatement_70 ?_
            refine r_iload_n (pc := 71) C 3 dX5_endOfStatement_71 rfl rfl ?_
            refine r_isub (pc := 72) C dX5_endOfStatement_72 ?_
            exact r_iret (pc := 73) C hQ dX5_endOfStatement_73 rfl (jst_ri (by unfold sE sED sEK sES; (repeat (first | rw [if_pos (by first | assumption | omega)] | rw [if_neg (by first | assumption | omega)])); (try omega)) rfl)
          · refine r_iinc (pc := 57) C dX5_endOfStatement_57 rfl ?_
            refine r_goto (pc := 60) (tgt := 74) C dX5_endOfStatement_60 (by decide) ?_
            refine r_iinc (pc := 74) C dX5_endOfStatement_74 rfl ?_
            refine r_goto (pc := 77) (tgt := 27) C dX5_endOfStatement_77 (by decide) ?_
            refine r_iload (pc := 27) C dX5_endOfStatement_27 rfl ?_
            refine r_aload_n (pc := 29) C 2 dX5_endOfStatement_29 rfl rfl ?_
            refine r_callVS (pc := 30) (is := []) C YJ0_length_8abf5 dX5_endOfStatement_30 tw_226 (c_J0_length_8abf5 l G _ (by first | assumption | omega | exact zand_rng _ _ | exact zor_rng _ _ | exact zxor_rng _ _ | exact BT.r (IT.b (by assumption)) _ _)) 1 (by first | assumption | decide | omega) rfl rfl (by decide) rfl rfl (Nat.le_of_ble_eq_true rfl) ⟨rfl, rfl, by decide, by decide⟩ (jst_i (ups_nil _) ?_)
            rw [show ((lenJ.getD 1 0 : Nat) : Int) = 4 from rfl]
            refine r_icmp_ge (pc := 33) (tgt := 80) C dX5_endOfStatement_33 (by decide) (by first | omega | exact zand_rng _ _ | exact zor_rng _ _ | exact zxor_rng _ _ | exact BT.r (IT.b (by assumption)) _ _) (by first | omega | exact zand_rng _ _ | exact zor_rng _ _ | exact zxor_rng _ _ | exact BT.r (IT.b (by assumption)) _ _) (fun c33 => ?_) (fun c33 => absurd c33 (by omega))
            refine r_iload_n (pc := 80) C 3 dX5_endOfStatement_80 rfl rfl ?_
            exact r_iret (pc := 81) C hQ dX5_endOfStatement_81 rfl (jst_ri (by unfold sE sED sEK sES; (repeat (first | rw [if_pos (by first | assumption | omega)] | rw [if_neg (by first | assumption | omega)])); (try omega)) rfl)
  · rw [show sFmN (sg (S 1) (S 0 0) p) = 2 from by unfold sFmN; (repeat (first | rw [if_pos (by omega)] | rw [if_neg (by omega)]))]
    refine r_aload_n (pc := 9) C 2 dX5_endOfStatement_9 rfl rfl ?_
    refine r_callVS (pc := 10) (is := []) C YJ0_isEmpty_aae02 dX5_endOfStatement_10 tw_222 (c_J0_isEmpty_aae02 l G _ (by first | assumption | omega | exact zand_rng _ _ | exact zor_rng _ _ | exact zxor_rng _ _ | exact BT.r (IT.b (by assumption)) _ _)) 2 (by first | assumption | decide | omega) rfl rfl (by decide) rfl rfl (Nat.le_of_ble_eq_true rfl) ⟨rfl, rfl, by decide, by decide⟩ (jst_i (ups_nil _) ?_)
    rw [zb_f (p := ((lenJ.getD 2 0 : Nat) : Int) = 0) (by decide)]
    refine r_if_eq (pc := 13) (tgt := 20) C dX5_endOfStatement_13 (by decide) (by first | omega | exact zand_rng _ _ | exact zor_rng _ _ | exact zxor_rng _ _ | exact BT.r (IT.b (by assumption)) _ _) (fun c13 => ?_) (fun c13 => absurd c13 (by omega))
    refine r_iload_n (pc := 20) C 1 dX5_endOfStatement_20 rfl rfl ?_
    refine r_iconst (pc := 21) C dX5_endOfStatement_21 ?_
    refine r_iadd (pc := 22) C dX5_endOfStatement_22 ?_
    refine r_istore_n (pc := 23) C 3 dX5_endOfStatement_23 rfl (Nat.le_of_ble_eq_true rfl) ?_
    refine r_iconst (pc := 24) C dX5_endOfStatement_24 ?_
    refine r_istore (pc := 25) C dX5_endOfStatement_25 (Nat.le_of_ble_eq_true rfl) ?_
    refine r_iload (pc := 27) C dX5_endOfStatement_27 rfl ?_
    refine r_aload_n (pc := 29) C 2 dX5_endOfStatement_29 rfl rfl ?_
    refine r_callVS (pc := 30) (is := []) C YJ0_length_8abf5 dX5_endOfStatement_30 tw_226 (c_J0_length_8abf5 l G _ (by first | assumption | omega | exact zand_rng _ _ | exact zor_rng _ _ | exact zxor_rng _ _ | exact BT.r (IT.b (by assumption)) _ _)) 2 (by first | assumption | decide | omega) rfl rfl (by decide) rfl rfl (Nat.le_of_ble_eq_true rfl) ⟨rfl, rfl, by decide, by decide⟩ (jst_i (ups_nil _) ?_)
    rw [show ((lenJ.getD 2 0 : Nat) : Int) = 2 from rfl]
    refine r_icmp_ge (pc := 33) (tgt := 80) C dX5_endOfStatement_33 (by decide) (by first | omega | exact zand_rng _ _ | exact zor_rng _ _ | exact zxor_rng _ _ | exact BT.r (IT.b (by assumption)) _ _) (by first | omega | exact zand_rng _ _ | exact zor_rng _ _ | exact zxor_rng _ _ | exact BT.r (IT.b (by assumption)) _ _) (fun c33 => absurd c33 (by omega)) (fun c33 => ?_)
    refine r_aload_n (pc := 36) C 2 dX5_endOfStatement_36 rfl rfl ?_
    refine r_iload (pc := 37) C dX5_endOfStatement_37 rfl ?_
    refine r_callVS (pc := 39) (is := []) C YJ0_charAt_5068e dX5_endOfStatement_39 tw_236 (c_J0_charAt_5068e l G _ _ (by first | assumption | omega | exact zand_rng _ _ | exact zor_rng _ _ | exact zxor_rng _ _ | exact BT.r (IT.b (by assumption)) _ _) (by decide)) 2 (by first | assumption | decide | omega) rfl rfl (by decide) rfl rfl (Nat.le_of_ble_eq_true rfl) ⟨rfl, rfl, by decide, by decide⟩ (jst_i (ups_nil _) ?_)
    rw [show sCh 2 (0) = 57 from by decide]
    refine r_istore (pc := 42) C dX5_endOfStatement_42 (Nat.le_of_ble_eq_true rfl) ?_
    refine r_iload (pc := 44) C dX5_endOfStatement_44 rfl ?_
    refine r_aload_n (pc := 46) C 0 dX5_endOfStatement_46 rfl rfl ?_
    refine r_iload_n (pc := 47) C 3 dX5_endOfStatement_47 rfl rfl ?_
    refine r_callV (pc := 48) (is := [0]) C YX5_signAt dX5_endOfStatement_48 tw_210 (c_X5_signAt l G _ _ _ (by first | assumption | omega | exact zand_rng _ _ | exact zor_rng _ _ | exact zxor_rng _ _ | exact BT.r (IT.b (by assumption)) _ _) (by first | assumption | omega | exact zand_rng _ _ | exact zor_rng _ _ | exact zxor_rng _ _ | exact BT.r (IT.b (by assumption)) _ _)) 0 0 rfl rfl (ci := 5) rfl rfl rfl (by decide) rfl rfl (Nat.le_of_ble_eq_true rfl) ⟨rfl, rfl, by decide, by decide⟩ (jst_i (S_uall ..) ?_)
    refine r_callS (pc := 51) (is := []) C YX5_fits dX5_endOfStatement_51 tw_274 (c_X5_fits57 l G _ (hsr _)) rfl (by decide) rfl rfl (Nat.le_of_ble_eq_true rfl) ⟨rfl, rfl, by decide, by decide⟩ (jst_i (ups_nil _) ?_)
    refine r_ifb_eq (pc := 54) (tgt := 63) C dX5_endOfStatement_54 (by decide) (fun c54 => ?_) (fun c54 => ?_)
    · refine r_iload (pc := 63) C dX5_endOfStatement_63 rfl ?_
      refine r_bipush (pc := 65) C dX5_endOfStatement_65 (by decide) ?_
      refine r_icmp_eq (pc := 67) (tgt := 74) C dX5_endOfStatement_67 (by decide) (by first | omega | exact zand_rng _ _ | exact zor_rng _ _ | exact zxor_rng _ _ | exact BT.r (IT.b (by assumption)) _ _) (by first | omega | exact zand_rng _ _ | exact zor_rng _ _ | exact zxor_rng _ _ | exact BT.r (IT.b (by assumption)) _ _) (fun c67 => absurd c67 (by omega)) (fun c67 => ?_)
      refine r_iconst (pc := 70) C dX5_endOfStatement_70 ?_
      refine r_iload_n (pc := 71) C 3 dX5_endOfStatement_71 rfl rfl ?_
      refine r_isub (pc := 72) C dX5_endOfStatement_72 ?_
      exact r_iret (pc := 73) C hQ dX5_endOfStatement_73 rfl (jst_ri (by unfold sE sED sEK sES; (repeat (first | rw [if_pos (by first | assumption | omega)] | rw [if_neg (by first | assumption | omega)])); (try omega)) rfl)
    · refine r_iinc (pc := 57) C dX5_endOfStatement_57 rfl ?_
      refine r_goto (pc := 60) (tgt := 74) C dX5_endOfStatement_60 (by decide) ?_
      refine r_iinc (pc := 74) C dX5_endOfStatement_74 rfl ?_
      refine r_goto (pc := 77) (tgt := 27) C dX5_endOfStatement_77 (by decide) ?_
      refine r_iload (pc := 27) C dX5_endOfStatement_27 rfl ?_
      refine r_aload_n (pc := 29) C 2 dX5_endOfStatement_29 rfl rfl ?_
      refine r_callVS (pc := 30) (is := []) C YJ0_length_8abf5 dX5_endOfStatement_30 tw_226 (c_J0_length_8abf5 l G _ (by first | assumption | omega | exact zand_rng _ _ | exact zor_rng _ _ | exact zxor_rng _ _ | exact BT.r (IT.b (by assumption)) _ _)) 2 (by first | assumption | decide | omega) rfl rfl (by decide) rfl rfl (Nat.le_of_ble_eq_true rfl) ⟨rfl, rfl, by decide, by decide⟩ (jst_i (ups_nil _) ?_)
      rw [show ((lenJ.getD 2 0 : Nat) : Int) = 2 from rfl]
      refine r_icmp_ge (pc := 33) (tgt := 80) C dX5_endOfStatement_33 (by decide) (by first | omega | exact zand_rng _ _ | exact zor_rng _ _ | exact zxor_rng _ _ | exact BT.r (IT.b (by assumption)) _ _) (by first | omega | exact zand_rng _ _ | exact zor_rng _ _ | exact zxor_rng _ _ | exact BT.r (IT.b (by assumption)) _ _) (fun c33 => absurd c33 (by omega)) (fun c33 => ?_)
      refine r_aload_n (pc := 36) C 2 dX5_endOfStatement_36 rfl rfl ?_
      refine r_iload (pc := 37) C dX5_endOfStatement_37 rfl ?_
      refine r_callVS (pc := 39) (is := []) C YJ0_charAt_5068e dX5_endOfStatement_39 tw_236 (c_J0_charAt_5068e l G _ _ (by first | assumption | omega | exact zand_rng _ _ | exact zor_rng _ _ | exact zxor_rng _ _ | exact BT.r (IT.b (by assumption)) _ _) (by decide)) 2 (by first | assumption | decide | omega) rfl rfl (by decide) rfl rfl (Nat.le_of_ble_eq_true rfl) ⟨rfl, rfl, by decide, by decide⟩ (jst_i (ups_nil _) ?_)
      rw [show sCh 2 (0 + 1) = 59 from by decide]
      refine r_istore (pc := 42) C dX5_endOfStatement_42 (Nat.le_of_ble_eq_true rfl) ?_
      refine r_iload (pc := 44) C dX5_endOfStatement_44 rfl ?_
      refine r_aload_n (pc := 46) C 0 dX5_endOfStatement_46 rfl rfl ?_
      refine r_iload_n (pc := 47) C 3 dX5_endOfStatement_47 rfl rfl ?_
      refine r_callV (pc := 48) (is := [0]) C YX5_signAt dX5_endOfStatement_48 tw_210 (c_X5_signAt l G _ _ _ (by first | assumption | omega | exact zand_rng _ _ | exact zor_rng _ _ | exact zxor_rng _ _ | exact BT.r (IT.b (by assumption)) _ _) (by first | assumption | omega | exact zand_rng _ _ | exact zor_rng _ _ | exact zxor_rng _ _ | exact BT.r (IT.b (by assumption)) _ _)) 0 0 rfl rfl (ci := 5) rfl rfl rfl (by decide) rfl rfl (Nat.le_of_ble_eq_true rfl) ⟨rfl, rfl, by decide, by decide⟩ (jst_i (S_uall ..) ?_)
      refine r_callS (pc := 51) (is := []) C YX5_fits dX5_endOfStatement_51 tw_274 (c_X5_fits59 l G _ (hsr _)) rfl (by decide) rfl rfl (Nat.le_of_ble_eq_true rfl) ⟨rfl, rfl, by decide, by decide⟩ (jst_i (ups_nil _) ?_)
      refine r_ifb_eq (pc := 54) (tgt := 63) C dX5_endOfStatement_54 (by decide) (fun c54 => ?_) (fun c54 => ?_)
      · refine r_iload (pc := 63) C dX5_endOfStatement_63 rfl ?_
        refine r_bipush (pc := 65) C dX5_endOfStatement_65 (by decide) ?_
        refine r_icmp_eq (pc := 67) (tgt := 74) C dX5_endOfStatement_67 (by decide) (by first | omega | exact zand_rng _ _ | exact zor_rng _ _ | exact zxor_rng _ _ | exact BT.r (IT.b (by assumption)) _ _) (by first | omega | exact zand_rng _ _ | exact zor_rng _ _ | exact zxor_rng _ _ | exact BT.r (IT.b (by assumption)) _ _) (fun c67 => absurd c67 (by omega)) (fun c67 => ?_)
        refine r_iconst (pc := 70) C dX5_endOfStatement_70 ?_
        refine r_iload_n (pc := 71) C 3 dX5_endOfStatement_71 rfl rfl ?_
        refine r_isub (pc := 72) C dX5_endOfStatement_72 ?_
        exact r_iret (pc := 73) C hQ dX5_endOfStatement_73 rfl (jst_ri (by unfold sE sED sEK sES; (repeat (first | rw [if_pos (by first | assumption | omega)] | rw [if_neg (by first | assumption | omega)])); (try omega)) rfl)
      · refine r_iinc (pc := 57) C dX5_endOfStatement_57 rfl ?_
        refine r_goto (pc := 60) (tgt := 74) C dX5_endOfStatement_60 (by decide) ?_
        refine r_iinc (pc := 74) C dX5_endOfStatement_74 rfl ?_
        refine r_goto (pc := 77) (tgt := 27) C dX5_endOfStatement_77 (by decide) ?_
        refine r_iload (pc := 27) C dX5_endOfStatement_27 rfl ?_
        refine r_aload_n (pc := 29) C 2 dX5_endOfStatement_29 rfl rfl ?_
        refine r_callVS (pc := 30) (is := []) C YJ0_length_8abf5 dX5_endOfStatement_30 tw_226 (c_J0_length_8abf5 l G _ (by first | assumption | omega | exact zand_rng _ _ | exact zor_rng _ _ | exact zxor_rng _ _ | exact BT.r (IT.b (by assumption)) _ _)) 2 (by first | assumption | decide | omega) rfl rfl (by decide) rfl rfl (Nat.le_of_ble_eq_true rfl) ⟨rfl, rfl, by decide, by decide⟩ (jst_i (ups_nil _) ?_)
        rw [show ((lenJ.getD 2 0 : Nat) : Int) = 2 from rfl]
        refine r_icmp_ge (pc := 33) (tgt := 80) C dX5_endOfStatement_33 (by decide) (by first | omega | exact zand_rng _ _ | exact zor_rng _ _ | exact zxor_rng _ _ | exact BT.r (IT.b (by assumption)) _ _) (by first | omega | exact zand_rng _ _ | exact zor_rng _ _ | exact zxor_rng _ _ | exact BT.r (IT.b (by assumption)) _ _) (fun c33 => ?_) (fun c33 => absurd c33 (by omega))
        refine r_iload_n (pc := 80) C 3 dX5_endOfStatement_80 rfl rfl ?_
        exact r_iret (pc := 81) C hQ dX5_endOfStatement_81 rfl (jst_ri (by unfold sE sED sEK sES; (repeat (first | rw [if_pos (by first | assumption | omega)] | rw [if_neg (by first | assumption | omega)])); (try omega)) rfl)
  · rw [show sFmN (sg (S 1) (S 0 0) p) = 3 from by unfold sFmN; (repeat (first | rw [if_pos (by omega)] | rw [if_neg (by omega)]))]
    refine r_aload_n (pc := 9) C 2 dX5_endOfStatement_9 rfl rfl ?_
    refine r_callVS (pc := 10) (is := []) C YJ0_isEmpty_aae02 dX5_endOfStatement_10 tw_222 (c_J0_isEmpty_aae02 l G _ (by first | assumption | omega | exact zand_rng _ _ | exact zor_rng _ _ | exact zxor_rng _ _ | exact BT.r (IT.b (by assumption)) _ _)) 3 (by first | assumption | decide | omega) rfl rfl (by decide) rfl rfl (Nat.le_of_ble_eq_true rfl) ⟨rfl, rfl, by decide, by decide⟩ (jst_i (ups_nil _) ?_)
    rw [zb_f (p := ((lenJ.getD 3 0 : Nat) : Int) = 0) (by decide)]
    refine r_if_eq (pc := 13) (tgt := 20) C dX5_endOfStatement_13 (by decide) (by first | omega | exact zand_rng _ _ | exact zor_rng _ _ | exact zxor_rng _ _ | exact BT.r (IT.b (by assumption)) _ _) (fun c13 => ?_) (fun c13 => absurd c13 (by omega))
    refine r_iload_n (pc := 20) C 1 dX5_endOfStatement_20 rfl rfl ?_
    refine r_iconst (pc := 21) C dX5_endOfStatement_21 ?_
    refine r_iadd (pc := 22) C dX5_endOfStatement_22 ?_
    refine r_istore_n (pc := 23) C 3 dX5_endOfStatement_23 rfl (Nat.le_of_ble_eq_true rfl) ?_
    refine r_iconst (pc := 24) C dX5_endOfStatement_24 ?_
    refine r_istore (pc := 25) C dX5_endOfStatement_25 (Nat.le_of_ble_eq_true rfl) ?_
    refine r_iload (pc := 27) C dX5_endOfStatement_27 rfl ?_
    refine r_aload_n (pc := 29) C 2 dX5_endOfStatement_29 rfl rfl ?_
    refine r_callVS (pc := 30) (is := []) C YJ0_length_8abf5 dX5_endOfStatement_30 tw_226 (c_J0_length_8abf5 l G _ (by first | assumption | omega | exact zand_rng _ _ | exact zor_rng _ _ | exact zxor_rng _ _ | exact BT.r (IT.b (by assumption)) _ _)) 3 (by first | assumption | decide | omega) rfl rfl (by decide) rfl rfl (Nat.le_of_ble_eq_true rfl) ⟨rfl, rfl, by decide, by decide⟩ (jst_i (ups_nil _) ?_)
    rw [show ((lenJ.getD 3 0 : Nat) : Int) = 3 from rfl]
    refine r_icmp_ge (pc := 33) (tgt := 80) C dX5_endOfStatement_33 (by decide) (by first | omega | exact zand_rng _ _ | exact zor_rng _ _ | exact zxor_rng _ _ | exact BT.r (IT.b (by assumption)) _ _) (by first | omega | exact zand_rng _ _ | exact zor_rng _ _ | exact zxor_rng _ _ | exact BT.r (IT.b (by assumption)) _ _) (fun c33 => absurd c33 (by omega)) (fun c33 => ?_)
    refine r_aload_n (pc := 36) C 2 dX5_endOfStatement_36 rfl rfl ?_
    refine r_iload (pc := 37) C dX5_endOfStatement_37 rfl ?_
    refine r_callVS (pc := 39) (is := []) C YJ0_charAt_5068e dX5_endOfStatement_39 tw_236 (c_J0_charAt_5068e l G _ _ (by first | assumption | omega | exact zand_rng _ _ | exact zor_rng _ _ | exact zxor_rng _ _ | exact BT.r (IT.b (by assumption)) _ _) (by decide)) 3 (by first | assumption | decide | omega) rfl rfl (by decide) rfl rfl (Nat.le_of_ble_eq_true rfl) ⟨rfl, rfl, by decide, by decide⟩ (jst_i (ups_nil _) ?_)
    rw [show sCh 3 (0) = 57 from by decide]
    refine r_istore (pc := 42) C dX5_endOfStatement_42 (Nat.le_of_ble_eq_true rfl) ?_
    refine r_iload (pc := 44) C dX5_endOfStatement_44 rfl ?_
    refine r_aload_n (pc := 46) C 0 dX5_endOfStatement_46 rfl rfl ?_
    refine r_iload_n (pc := 47) C 3 dX5_endOfStatement_47 rfl rfl ?_
    refine r_callV (pc := 48) (is := [0]) C YX5_signAt dX5_endOfStatement_48 tw_210 (c_X5_signAt l G _ _ _ (by first | assumption | omega | exact zand_rng _ _ | exact zor_rng _ _ | exact zxor_rng _ _ | exact BT.r (IT.b (by assumption)) _ _) (by first | assumption | omega | exact zand_rng _ _ | exact zor_rng _ _ | exact zxor_rng _ _ | exact BT.r (IT.b (by assumption)) _ _)) 0 0 rfl rfl (ci := 5) rfl rfl rfl (by decide) rfl rfl (Nat.le_of_ble_eq_true rfl) ⟨rfl, rfl, by decide, by decide⟩ (jst_i (S_uall ..) ?_)
    refine r_callS (pc := 51) (is := []) C YX5_fits dX5_endOfStatement_51 tw_274 (c_X5_fits57 l G _ (hsr _)) rfl (by decide) rfl rfl (Nat.le_of_ble_eq_true rfl) ⟨rfl, rfl, by decide, by decide⟩ (jst_i (ups_nil _) ?_)
    refine r_ifb_eq (pc := 54) (tgt := 63) C dX5_endOfStatement_54 (by decide) (fun c54 => ?_) (fun c54 => ?_)
    · refine r_iload (pc := 63) C dX5_endOfStatement_63 rfl ?_
      refine r_bipush (pc := 65) C dX5_endOfStatement_65 (by decide) ?_
      refine r_icmp_eq (pc := 67) (tgt := 74) C dX5_endOfStatement_67 (by decide) (by first | omega | exact zand_rng _ _ | exact zor_rng _ _ | exact zxor_rng _ _ | exact BT.r (IT.b (by assumption)) _ _) (by first | omega | exact zand_rng _ _ | exact zor_rng _ _ | exact zxor_rng _ _ | exact BT.r (IT.b (by assumption)) _ _) (fun c67 => absurd c67 (by omega)) (fun c67 => ?_)
      refine r_iconst (pc := 70) C dX5_endOfStatement_70 ?_
      refine r_iload_n (pc := 71) C 3 dX5_endOfStatement_71 rfl rfl ?_
      refine r_isub (pc := 72) C dX5_endOfStatement_72 ?_
      exact r_iret (pc := 73) C hQ dX5_endOfStatement_73 rfl (jst_ri (by unfold sE sED sEK sES; (repeat (first | rw [if_pos (by first | assumption | omega)] | rw [if_neg (by first | assumption | omega)])); (try omega)) rfl)
    · refine r_iinc (pc := 57) C dX5_endOfStatement_57 rfl ?_
      refine r_goto (pc := 60) (tgt := 74) C dX5_endOfStatement_60 (by decide) ?_
      refine r_iinc (pc := 74) C dX5_endOfStatement_74 rfl ?_
      refine r_goto (pc := 77) (tgt := 27) C dX5_endOfStatement_77 (by decide) ?_
      refine r_iload (pc := 27) C dX5_endOfStatement_27 rfl ?_
      refine r_aload_n (pc := 29) C 2 dX5_endOfStatement_29 rfl rfl ?_
      refine r_callVS (pc := 30) (is := []) C YJ0_length_8abf5 dX5_endOfStatement_30 tw_226 (c_J0_length_8abf5 l G _ (by first | assumption | omega | exact zand_rng _ _ | exact zor_rng _ _ | exact zxor_rng _ _ | exact BT.r (IT.b (by assumption)) _ _)) 3 (by first | assumption | decide | omega) rfl rfl (by decide) rfl rfl (Nat.le_of_ble_eq_true rfl) ⟨rfl, rfl, by decide, by decide⟩ (jst_i (ups_nil _) ?_)
      rw [show ((lenJ.getD 3 0 : Nat) : Int) = 3 from rfl]
      refine r_icmp_ge (pc := 33) (tgt := 80) C dX5_endOfStatement_33 (by decide) (by first | omega | exact zand_rng _ _ | exact zor_rng _ _ | exact zxor_rng _ _ | exact BT.r (IT.b (by assumption)) _ _) (by first | omega | exact zand_rng _ _ | exact zor_rng _ _ | exact zxor_rng _ _ | exact BT.r (IT.b (by assumption)) _ _) (fun c33 => absurd c33 (by omega)) (fun c33 => ?_)
      refine r_aload_n (pc := 36) C 2 dX5_endOfStatement_36 rfl rfl ?_
      refine r_iload (pc := 37) C dX5_endOfStatement_37 rfl ?_
      refine r_callVS (pc := 39) (is := []) C YJ0_charAt_5068e dX5_endOfStatement_39 tw_236 (c_J0_charAt_5068e l G _ _ (by first | assumption | omega | exact zand_rng _ _ | exact zor_rng _ _ | exact zxor_rng _ _ | exact BT.r (IT.b (by assumption)) _ _) (by decide)) 3 (by first | assumption | decide | omega) rfl rfl (by decide) rfl rfl (Nat.le_of_ble_eq_true rfl) ⟨rfl, rfl, by decide, by decide⟩ (jst_i (ups_nil _) ?_)
      rw [show sCh 3 (0 + 1) = 63 from by decide]
      refine r_istore (pc := 42) C dX5_endOfStatement_42 (Nat.le_of_ble_eq_true rfl) ?_
      refine r_iload (pc := 44) C dX5_endOfStatement_44 rfl ?_
      refine r_aload_n (pc := 46) C 0 dX5_endOfStatement_46 rfl rfl ?_
      refine r_iload_n (pc := 47) C 3 dX5_endOfStatement_47 rfl rfl ?_
      refine r_callV (pc := 48) (is := [0]) C YX5_signAt dX5_endOfStatement_48 tw_210 (c_X5_signAt l G _ _ _ (by first | assumption | omega | exact zand_rng _ _ | exact zor_rng _ _ | exact zxor_rng _ _ | exact BT.r (IT.b (by assumption)) _ _) (by first | assumption | omega | exact zand_rng _ _ | exact zor_rng _ _ | exact zxor_rng _ _ | exact BT.r (IT.b (by assumption)) _ _)) 0 0 rfl rfl (ci := 5) rfl rfl rfl (by decide) rfl rfl (Nat.le_of_ble_eq_true rfl) ⟨rfl, rfl, by decide, by decide⟩ (jst_i (S_uall ..) ?_)
      refine r_callS (pc := 51) (is := []) C YX5_fits dX5_endOfStatement_51 tw_274 (c_X5_fits63 l G _ (hsr _)) rfl (by decide) rfl rfl (Nat.le_of_ble_eq_true rfl) ⟨rfl, rfl, by decide, by decide⟩ (jst_i (ups_nil _) ?_)
      refine r_ifb_eq (pc := 54) (tgt := 63) C dX5_endOfStatement_54 (by decide) (fun c54 => ?_) (fun c54 => ?_)
      · refine r_iload (pc := 63) C dX5_endOfStatement_63 rfl ?_
        refine r_bipush (pc := 65) C dX5_endOfStatement_65 (by decide) ?_
        refine r_icmp_eq (pc := 67) (tgt := 74) C dX5_endOfStatement_67 (by decide) (by first | omega | exact zand_rng _ _ | exact zor_rng _ _ | exact zxor_rng _ _ | exact BT.r (IT.b (by assumption)) _ _) (by first | omega | exact zand_rng _ _ | exact zor_rng _ _ | exact zxor_rng _ _ | exact BT.r (IT.b (by assumption)) _ _) (fun c67 => ?_) (fun c67 => absurd c67 (by omega))
        refine r_iinc (pc := 74) C dX5_endOfStatement_74 rfl ?_
        refine r_goto (pc := 77) (tgt := 27) C dX5_endOfStatement_77 (by decide) ?_
        refine r_iload (pc := 27) C dX5_endOfStatement_27 rfl ?_
        refine r_aload_n (pc := 29) C 2 dX5_endOfStatement_29 rfl rfl ?_
        refine r_callVS (pc := 30) (is := []) C YJ0_length_8abf5 dX5_endOfStatement_30 tw_226 (c_J0_length_8abf5 l G _ (by first | assumption | omega | exact zand_rng _ _ | exact zor_rng _ _ | exact zxor_rng _ _ | exact BT.r (IT.b (by assumption)) _ _)) 3 (by first | assumption | decide | omega) rfl rfl (by decide) rfl rfl (Nat.le_of_ble_eq_true rfl) ⟨rfl, rfl, by decide, by decide⟩ (jst_i (ups_nil _) ?_)
        rw [show ((lenJ.getD 3 0 : Nat) : Int) = 3 from rfl]
        refine r_icmp_ge (pc := 33) (tgt := 80) C dX5_endOfStatement_33 (by decide) (by first | omega | exact zand_rng _ _ | exact zor_rng _ _ | exact zxor_rng _ _ | exact BT.r (IT.b (by assumption)) _ _) (by first | omega | exact zand_rng _ _ | exact zor_rng _ _ | exact zxor_rng _ _ | exact BT.r (IT.b (by assumption)) _ _) (fun c33 => absurd c33 (by omega)) (fun c33 => ?_)
        refine r_aload_n (pc := 36) C 2 dX5_endOfStatement_36 rfl rfl ?_
        refine r_iload (pc := 37) C dX5_endOfStatement_37 rfl ?_
        refine r_callVS (pc := 39) (is := []) C YJ0_charAt_5068e dX5_endOfStatement_39 tw_236 (c_J0_charAt_5068e l G _ _ (by first | assumption | omega | exact zand_rng _ _ | exact zor_rng _ _ | exact zxor_rng _ _ | exact BT.r (IT.b (by assumption)) _ _) (by decide)) 3 (by first | assumption | decide | omega) rfl rfl (by decide) rfl rfl (Nat.le_of_ble_eq_true rfl) ⟨rfl, rfl, by decide, by decide⟩ (jst_i (ups_nil _) ?_)
        rw [show sCh 3 (0 + 1 + 1) = 59 from by decide]
        refine r_istore (pc := 42) C dX5_endOfStatement_42 (Nat.le_of_ble_eq_true rfl) ?_
        refine r_iload (pc := 44) C dX5_endOfStatement_44 rfl ?_
        refine r_aload_n (pc := 46) C 0 dX5_endOfStatement_46 rfl rfl ?_
        refine r_iload_n (pc := 47) C 3 dX5_endOfStatement_47 rfl rfl ?_
        refine r_callV (pc := 48) (is := [0]) C YX5_signAt dX5_endOfStatement_48 tw_210 (c_X5_signAt l G _ _ _ (by first | assumption | omega | exact zand_rng _ _ | exact zor_rng _ _ | exact zxor_rng _ _ | exact BT.r (IT.b (by assumption)) _ _) (by first | assumption | omega | exact zand_rng _ _ | exact zor_rng _ _ | exact zxor_rng _ _ | exact BT.r (IT.b (by assumption)) _ _)) 0 0 rfl rfl (ci := 5) rfl rfl rfl (by decide) rfl rfl (Nat.le_of_ble_eq_true rfl) ⟨rfl, rfl, by decide, by decide⟩ (jst_i (S_uall ..) ?_)
        refine r_callS (pc := 51) (is := []) C YX5_fits dX5_endOfStatement_51 tw_274 (c_X5_fits59 l G _ (hsr _)) rfl (by decide) rfl rfl (Nat.le_of_ble_eq_true rfl) ⟨rfl, rfl, by decide, by decide⟩ (jst_i (ups_nil _) ?_)
        refine r_ifb_eq (pc := 54) (tgt := 63) C dX5_endOfStatement_54 (by decide) (fun c54 => ?_) (fun c54 => ?_)
        · refine r_iload (pc := 63) C dX5_endOfStatement_63 rfl ?_
          refine r_bipush (pc := 65) C dX5_endOfStatement_65 (by decide) ?_
          refine r_icmp_eq (pc := 67) (tgt := 74) C dX5_endOfStatement_67 (by decide) (by first | omega | exact zand_rng _ _ | exact zor_rng _ _ | exact zxor_rng _ _ | exact BT.r (IT.b (by assumption)) _ _) (by first | omega | exact zand_rng _ _ | exact zor_rng _ _ | exact zxor_rng _ _ | exact BT.r (IT.b (by assumption)) _ _) (fun c67 => absurd c67 (by omega)) (fun c67 => ?_)
          refine r_iconst (pc := 70) C dX5_endOfStatement_70 ?_
          refine r_iload_n (pc := 71) C 3 dX5_endOfStatement_71 rfl rfl ?_
          refine r_isub (pc := 72) C dX5_endOfStatement_72 ?_
          exact r_iret (pc := 73) C hQ dX5_endOfStatement_73 rfl (jst_ri (by unfold sE sED sEK sES; (repeat (first | rw [if_pos (by first | assumption | omega)] | rw [if_neg (by first | assumption | omega)])); (try omega)) rfl)
        · refine r_iinc (pc := 57) C dX5_endOfStatement_57 rfl ?_
          refine r_goto (pc := 60) (tgt := 74) C dX5_endOfStatement_60 (by decide) ?_
          refine r_iinc (pc := 74) C dX5_endOfStatement_74 rfl ?_
          refine r_goto (pc := 77) (tgt := 27) C dX5_endOfStatement_77 (by decide) ?_
          refine r_iload (pc := 27) C dX5_endOfStatement_27 rfl ?_
          refine r_aload_n (pc := 29) C 2 dX5_endOfStatement_29 rfl rfl ?_
          refine r_callVS (pc := 30) (is := []) C YJ0_length_8abf5 dX5_endOfStatement_30 tw_226 (c_J0_length_8abf5 l G _ (by first | assumption | omega | exact zand_rng _ _ | exact zor_rng _ _ | exact zxor_rng _ _ | exact BT.r (IT.b (by assumption)) _ _)) 3 (by first | assumption | decide | omega) rfl rfl (by decide) rfl rfl (Nat.le_of_ble_eq_true rfl) ⟨rfl, rfl, by decide, by decide⟩ (jst_i (ups_nil _) ?_)
          rw [show ((lenJ.getD 3 0 : Nat) : Int) = 3 from rfl]
          refine r_icmp_ge (pc := 33) (tgt := 80) C dX5_endOfStatement_33 (by decide) (by first | omega | exact zand_rng _ _ | exact zor_rng _ _ | exact zxor_rng _ _ | exact BT.r (IT.b (by assumption)) _ _) (by first | omega | exact zand_rng _ _ | exact zor_rng _ _ | exact zxor_rng _ _ | exact BT.r (IT.b (by assumption)) _ _) (fun c33 => ?_) (fun c33 => absurd c33 (by omega))
          refine r_iload_n (pc := 80) C 3 dX5_endOfStatement_80 rfl rfl ?_
          exact r_iret (pc := 81) C hQ dX5_endOfStatement_81 rfl (jst_ri (by unfold sE sED sEK sES; (repeat (first | rw [if_pos (by first | assumption | omega)] | rw [if_neg (by first | assumption | omega)])); (try omega)) rfl)
      · refine r_iinc (pc := 57) C dX5_endOfStatement_57 rfl ?_
        refine r_goto (pc := 60) (tgt := 74) C dX5_endOfStatement_60 (by decide) ?_
        refine r_iinc (pc := 74) C dX5_endOfStatement_74 rfl ?_
        refine r_goto (pc := 77) (tgt := 27) C dX5_endOfStatement_77 (by decide) ?_
        refine r_iload (pc := 27) C dX5_endOfStatement_27 rfl ?_
        refine r_aload_n (pc := 29) C 2 dX5_endOfStatement_29 rfl rfl ?_
        refine r_callVS (pc := 30) (is := []) C YJ0_length_8abf5 dX5_endOfStatement_30 tw_226 (c_J0_length_8abf5 l G _ (by first | assumption | omega | exact zand_rng _ _ | exact zor_rng _ _ | exact zxor_rng _ _ | exact BT.r (IT.b (by assumption)) _ _)) 3 (by first | assumption | decide | omega) rfl rfl (by decide) rfl rfl (Nat.le_of_ble_eq_true rfl) ⟨rfl, rfl, by decide, by decide⟩ (jst_i (ups_nil _) ?_)
        rw [show ((lenJ.getD 3 0 : Nat) : Int) = 3 from rfl]
        refine r_icmp_ge (pc := 33) (tgt := 80) C dX5_endOfStatement_33 (by decide) (by first | omega | exact zand_rng _ _ | exact zor_rng _ _ | exact zxor_rng _ _ | exact BT.r (IT.b (by assumption)) _ _) (by first | omega | exact zand_rng _ _ | exact zor_rng _ _ | exact zxor_rng _ _ | exact BT.r (IT.b (by assumption)) _ _) (fun c33 => absurd c33 (by omega)) (fun c33 => ?_)
        refine r_aload_n (pc := 36) C 2 dX5_endOfStatement_36 rfl rfl ?_
        refine r_iload (pc := 37) C dX5_endOfStatement_37 rfl ?_
        refine r_callVS (pc := 39) (is := []) C YJ0_charAt_5068e dX5_endOfStatement_39 tw_236 (c_J0_charAt_5068e l G _ _ (by first | assumption | omega | exact zand_rng _ _ | exact zor_rng _ _ | exact zxor_rng _ _ | exact BT.r (IT.b (by assumption)) _ _) (by decide)) 3 (by first | assumption | decide | omega) rfl rfl (by decide) rfl rfl (Nat.le_of_ble_eq_true rfl) ⟨rfl, rfl, by decide, by decide⟩ (jst_i (ups_nil _) ?_)
        rw [show sCh 3 (0 + 1 + 1) = 59 from by decide]
        refine r_istore (pc := 42) C dX5_endOfStatement_42 (Nat.le_of_ble_eq_true rfl) ?_
        refine r_iload (pc := 44) C dX5_endOfStatement_44 rfl ?_
        refine r_aload_n (pc := 46) C 0 dX5_endOfStatement_46 rfl rfl ?_
        refine r_iload_n (pc := 47) C 3 dX5_endOfStatement_47 rfl rfl ?_
        refine r_callV (pc := 48) (is := [0]) C YX5_signAt dX5_endOfStatement_48 tw_210 (c_X5_signAt l G _ _ _ (by first | assumption | omega | exact zand_rng _ _ | exact zor_rng _ _ | exact zxor_rng _ _ | exact BT.r (IT.b (by assumption)) _ _) (by first | assumption | omega | exact zand_rng _ _ | exact zor_rng _ _ | exact zxor_rng _ _ | exact BT.r (IT.b (by assumption)) _ _)) 0 0 rfl rfl (ci := 5) rfl rfl rfl (by decide) rfl rfl (Nat.le_of_ble_eq_true rfl) ⟨rfl, rfl, by decide, by decide⟩ (jst_i (S_uall ..) ?_)
        refine r_callS (pc := 51) (is := []) C YX5_fits dX5_endOfStatement_51 tw_274 (c_X5_fits59 l G _ (hsr _)) rfl (by decide) rfl rfl (Nat.le_of_ble_eq_true rfl) ⟨rfl, rfl, by decide, by decide⟩ (jst_i (ups_nil _) ?_)
        refine r_ifb_eq (pc := 54) (tgt := 63) C dX5_endOfStatement_54 (by decide) (fun c54 => ?_) (fun c54 => ?_)
        · refine r_iload (pc := 63) C dX5_endOfStatement_63 rfl ?_
          refine r_bipush (pc := 65) C dX5_endOfStatement_65 (by decide) ?_
          refine r_icmp_eq (pc := 67) (tgt := 74) C dX5_endOfStatement_67 (by decide) (by first | omega | exact zand_rng _ _ | exact zor_rng _ _ | exact zxor_rng _ _ | exact BT.r (IT.b (by assumption)) _ _) (by first | omega | exact zand_rng _ _ | exact zor_rng _ _ | exact zxor_rng _ _ | exact BT.r (IT.b (by assumption)) _ _) (fun c67 => absurd c67 (by omega)) (fun c67 => ?_)
          refine r_iconst (pc := 70) C dX5_endOfStatement_70 ?_
          refine r_iload_n (pc := 71) C 3 dX5_endOfStatement_71 rfl rfl ?_
          refine r_isub (pc := 72) C dX5_endOfStatement_72 ?_
          exact r_iret (pc := 73) C hQ dX5_endOfStatement_73 rfl (jst_ri (by unfold sE sED sEK sES; (repeat (first | rw [if_pos (by first | assumption | omega)] | rw [if_neg (by first | assumption | omega)])); (try omega)) rfl)
        · refine r_iinc (pc := 57) C dX5_endOfStatement_57 rfl ?_
          refine r_goto (pc := 60) (tgt := 74) C dX5_endOfStatement_60 (by decide) ?_
          refine r_iinc (pc := 74) C dX5_endOfStatement_74 rfl ?_
          refine r_goto (pc := 77) (tgt := 27) C dX5_endOfStatement_77 (by decide) ?_
          refine r_iload (pc := 27) C dX5_endOfStatement_27 rfl ?_
          refine r_aload_n (pc := 29) C 2 dX5_endOfStatement_29 rfl rfl ?_
          refine r_callVS (pc := 30) (is := []) C YJ0_length_8abf5 dX5_endOfStatement_30 tw_226 (c_J0_length_8abf5 l G _ (by first | assumption | omega | exact zand_rng _ _ | exact zor_rng _ _ | exact zxor_rng _ _ | exact BT.r (IT.b (by assumption)) _ _)) 3 (by first | assumption | decide | omega) rfl rfl (by decide) rfl rfl (Nat.le_of_ble_eq_true rfl) ⟨rfl, rfl, by decide, by decide⟩ (jst_i (ups_nil _) ?_)
          rw [show ((lenJ.getD 3 0 : Nat) : Int) = 3 from rfl]
          refine r_icmp_ge (pc := 33) (tgt := 80) C dX5_endOfStatement_33 (by decide) (by first | omega | exact zand_rng _ _ | exact zor_rng _ _ | exact zxor_rng _ _ | exact BT.r (IT.b (by assumption)) _ _) (by first | omega | exact zand_rng _ _ | exact zor_rng _ _ | exact zxor_rng _ _ | exact BT.r (IT.b (by assumption)) _ _) (fun c33 => ?_) (fun c33 => absurd c33 (by omega))
          refine r_iload_n (pc := 80) C 3 dX5_endOfStatement_80 rfl rfl ?_
          exact r_iret (pc := 81) C hQ dX5_endOfStatement_81 rfl (jst_ri (by unfold sE sED sEK sES; (repeat (first | rw [if_pos (by first | assumption | omega)] | rw [if_neg (by first | assumption | omega)])); (try omega)) rfl)
  · rw [show sFmN (sg (S 1) (S 0 0) p) = 4 from by unfold sFmN; (repeat (first | rw [if_pos (by omega)] | rw [if_neg (by omega)]))]
    refine r_aload_n (pc := 9) C 2 dX5_endOfStatement_9 rfl rfl ?_
    refine r_callVS (pc := 10) (is := []) C YJ0_isEmpty_aae02 dX5_endOfStatement_10 tw_222 (c_J0_isEmpty_aae02 l G _ (by first | assumption | omega | exact zand_rng _ _ | exact zor_rng _ _ | exact zxor_rng _ _ | exact BT.r (IT.b (by assumption)) _ _)) 4 (by first | assumption | decide | omega) rfl rfl (by decide) rfl rfl (Nat.le_of_ble_eq_true rfl) ⟨rfl, rfl, by decide, by decide⟩ (jst_i (ups_nil _) ?_)
    rw [zb_t (p := ((lenJ.getD 4 0 : Nat) : Int) = 0) (by decide)]
    refine r_if_eq (pc := 13) (tgt := 20) C dX5_endOfStatement_13 (by decide) (by first | omega | exact zand_rng _ _ | exact zor_rng _ _ | exact zxor_rng _ _ | exact BT.r (IT.b (by assumption)) _ _) (fun c13 => absurd c13 (by omega)) (fun c13 => ?_)
    refine r_iconst (pc := 16) C dX5_endOfStatement_16 ?_
    refine r_iload_n (pc := 17) C 1 dX5_endOfStatement_17 rfl rfl ?_
    refine r_isub (pc := 18) C dX5_endOfStatement_18 ?_
    exact r_iret (pc := 19) C hQ dX5_endOfStatement_19 rfl (jst_ri (by unfold sE sED sEK sES; (repeat (first | rw [if_pos (by first | assumption | omega)] | rw [if_neg (by first | assumption | omega)])); (try omega)) rfl)

