set_option maxRecDepth 100000 in
set_option maxHeartbeats 4000000 in
theorem c_X9_seeds (l : Launch) (G : GT) (b : Nat → Nat) (R T : Tn) (m z q : Int) (hI : IT T) (hR : IR R) (hk9 : T 0 4 ≤ 999) (gm : -2147483648 ≤ m ∧ m < 2147483648) (gz : -2147483648 ≤ z ∧ z < 2147483648) (gq : -2147483648 ≤ q ∧ q < 2147483648) : Cn l yX9_seeds cX9_seeds 7 (Option.some .int) ({ frames := 6, cells := 0, slots := 0, locals := 134 }) G [.ref (b 0), .int (iI m), .int (iI z), .int (iI q)] (wR G b R T) (jst (some (.int (iI (zans (q_lo T q m 1 30) (v_seeds T m z q))))) (wR G b (zif (q_lo T q m 1 30) (up1 R 5 (flat T)) (rfs R (q_lo T q m 1 30))) (zif (q_lo T q m 1 30) (T) T))) := by
  refine Cn_in RX9 [some (.ref (b 0)), some (.int (iI m)), some (.int (iI z)), some (.int (iI q)), none, none, none] (by decide +kernel) rfl rfl rfl (Nat.le_of_ble_eq_true rfl) (fun K C hQ => ?_)
  obtain ⟨r0, r1, r3, r6, r8⟩ := hR
  have hBB := hI.b
  have hLL := hI.L
  have hDD := hI.D
  have hkk := hI.k
  refine r_aload_n (pc := 0) C 0 dX9_seeds_0 rfl rfl ?_
  refine r_iload_n (pc := 1) C 3 dX9_seeds_1 rfl rfl ?_
  refine r_callV (pc := 2) (is := [0, 1, 2, 3, 4, 5, 6, 7, 8]) C YX9_isLoft dX9_seeds_2 tw_834 (c_X9_isLoft l G _ _ _ _ (by first | assumption | omega | exact zand_rng _ _ | exact zor_rng _ _ | exact zxor_rng _ _ | exact BT.r (IT.b (by assumption)) _ _) (by first | assumption | omega | exact zand_rng _ _ | exact zor_rng _ _ | exact zxor_rng _ _ | exact BT.r (IT.b (by assumption)) _ _)) 0 0 rfl rfl (ci := 9) rfl rfl rfl (by decide) rfl rfl (Nat.le_of_ble_eq_true rfl) ⟨rfl, rfl, by decide, by decide⟩ (jst_i (R_uall ..) ?_)
  refine r_ifb_ne (pc := 5) (tgt := 12) C dX9_seeds_5 (by decide) (fun c5 => ?_) (fun c5 => ?_)
  · refine r_iload_n (pc := 12) C 1 dX9_seeds_12 rfl rfl ?_
    refine r_iconst (pc := 13) C dX9_seeds_13 ?_
    refine r_bipush (pc := 14) C dX9_seeds_14 (by decide) ?_
    refine r_callS (pc := 16) (is := []) C YX9_within dX9_seeds_16 tw_782 (c_X9_within l G _ _ _ (by first | assumption | omega | exact zand_rng _ _ | exact zor_rng _ _ | exact zxor_rng _ _ | exact BT.r (IT.b (by assumption)) _ _) (by first | assumption | omega | exact zand_rng _ _ | exact zor_rng _ _ | exact zxor_rng _ _ | exact BT.r (IT.b (by assumption)) _ _) (by first | assumption | omega | exact zand_rng _ _ | exact zor_rng _ _ | exact zxor_rng _ _ | exact BT.r (IT.b (by assumption)) _ _)) rfl (by decide) rfl rfl (Nat.le_of_ble_eq_true rfl) ⟨rfl, rfl, by decide, by decide⟩ (jst_i rfl ?_)
    have hs16 := sOut_r m 1 30 (by decide)
    refine r_istore (pc := 19) C dX9_seeds_19 (Nat.le_of_ble_eq_true rfl) ?_
    refine r_iload (pc := 21) C dX9_seeds_21 rfl ?_
    refine r_if_eq (pc := 23) (tgt := 33) C dX9_seeds_23 (by decide) (by first | omega | exact zand_rng _ _ | exact BT.r (IT.b hI) _ _ | exact BT.r (IT.b hU) _ _) (fun c23 => ?_) (fun c23 => ?_)
    · refine r_aload_n (pc := 33) C 0 dX9_seeds_33 rfl rfl ?_
      refine r_callV (pc := 34) (is := [0, 1, 2, 3, 4, 5, 6, 7, 8]) C YX9_begins dX9_seeds_34 tw_933 (c_X9_begins l G _ _ _) 0 0 rfl rfl (ci := 9) rfl rfl rfl (by decide) rfl rfl (Nat.le_of_ble_eq_true rfl) ⟨rfl, rfl, by decide, by decide⟩ (jst_v (R_uall ..) ?_)
      refine r_iload_n (pc := 37) C 2 dX9_seeds_37 rfl rfl ?_
      refine r_istore (pc := 38) C dX9_seeds_38 (Nat.le_of_ble_eq_true rfl) ?_
      refine r_iconst (pc := 40) C dX9_seeds_40 ?_
      refine r_istore (pc := 41) C dX9_seeds_41 (Nat.le_of_ble_eq_true rfl) ?_
      have L43 : ∀ (n : Nat) (i : Int), 0 ≤ i → i ≤ m → m < i + n → Wc K G 43 [some (.ref (b 0)), some (.int (iI m)), none, some (.int (iI q)), none, some (.int (iI (sSeed T z i).1)), some (.int (iI i))] [] (wR G b (up1 R 5 (flat T)) (sSeed T z i).2) := by
        intro n
        induction n with
        | zero =>
          intro i h0 h1 hn; omega
        | succ n ih =>
          intro i h0 h1 hn 
          obtain ⟨hU, hU0, hU4, hUD⟩ := sSeed_p hI z h0 (by omega)
          have hUL := hU.L
          have hdr := sDraw_r hU ((sSeed T z i).1 * 1664525 + 1013904223)
          refine r_iload (pc := 43) C dX9_seeds_43 rfl ?_
          refine r_iload_n (pc := 45) C 1 dX9_seeds_45 rfl rfl ?_
          refine r_icmp_ge (pc := 46) (tgt := 93) C dX9_seeds_46 (by decide) (by first | omega | exact zand_rng _ _ | exact BT.r (IT.b hI) _ _ | exact BT.r (IT.b hU) _ _) (by first | omega | exact zand_rng _ _ | exact BT.r (IT.b hI) _ _ | exact BT.r (IT.b hU) _ _) (fun c46 => ?_) (fun c46 => ?_)
          · obtain rfl : m = i := by omega
            refine r_aload_n (pc := 93) C 0 dX9_seeds_93 rfl rfl ?_
            refine r_iload_n (pc := 94) C 3 dX9_seeds_94 rfl rfl ?_
            refine r_callV (pc := 95) (is := [0, 1, 2, 3, 4, 5, 6, 7, 8]) C YX9_purseOf dX9_seeds_95 tw_838 (c_X9_purseOf l G _ _ _ _ (by first | assumption | omega | exact zand_rng _ _ | exact zor_rng _ _ | exact zxor_rng _ _ | exact BT.r (IT.b (by assumption)) _ _) (by first | assumption | omega | exact zand_rng _ _ | exact zor_rng _ _ | exact zxor_rng _ _ | exact BT.r (IT.b (by assumption)) _ _)) 0 0 rfl rfl (ci := 9) rfl rfl rfl (by decide) rfl rfl (Nat.le_of_ble_eq_true rfl) ⟨rfl, rfl, by decide, by decide⟩ (jst_i (R_uall ..) ?_)
            refine r_istore (pc := 98) C dX9_seeds_98 (Nat.le_of_ble_eq_true rfl) ?_
            refine r_aload_n (pc := 100) C 0 dX9_seeds_100 rfl rfl ?_
            refine r_callV (pc := 101) (is := [0, 1, 2, 3, 4, 5, 6, 7, 8]) C YX9_ends dX9_seeds_101 tw_941 (c_X9_ends l G _ _ _ _ rfl) 0 0 rfl rfl (ci := 9) rfl rfl rfl (by decide) rfl rfl (Nat.le_of_ble_eq_true rfl) ⟨rfl, rfl, by decide, by decide⟩ (jst_v (R_uall ..) ?_)
            refine r_iload (pc := 104) C dX9_seeds_104 rfl ?_
            exact r_iret (pc := 106) C hQ dX9_seeds_106 rfl (fin_okR (by unfold q_lo; (repeat (first | rw [if_pos (by omega)] | rw [if_neg (by omega)])); (try first | rfl | assumption | omega)) (by rfl) (by rfl))
          · have hzp := zp2_r (L := (sSeed T z i).2 0 0) (by omega)
            refine r_iload (pc := 49) C dX9_seeds_49 rfl ?_
            refine r_ldc (pc := 51) C dX9_seeds_51 (n := 1664525) tw_1022 (by decide) ?_
            refine r_imul (pc := 53) C dX9_seeds_53 ?_
            refine r_ldc (pc := 54) C dX9_seeds_54 (n := 1013904223) tw_1023 (by decide) ?_
            refine r_iadd (pc := 56) C dX9_seeds_56 ?_
            refine r_istore (pc := 57) C dX9_seeds_57 (Nat.le_of_ble_eq_true rfl) ?_
            refine r_aload_n (pc := 59) C 0 dX9_seeds_59 rfl rfl ?_
            refine r_get (pc := 60) C 0 0 1 dX9_seeds_60 in_X9 rfl rfl (ci := 9) rfl (by decide) tw_742 rfl rfl ?_
            refine r_iconst (pc := 63) C dX9_seeds_63 ?_
            refine r_iload (pc := 64) C dX9_seeds_64 rfl ?_
            refine r_ldc (pc := 66) C dX9_seeds_66 (n := 2147483647) tw_1024 (by decide) ?_
            refine r_iand (pc := 68) C dX9_seeds_68 ?_
            refine r_sipush (pc := 69) C dX9_seeds_69 (by decide) ?_
            refine r_idiv (pc := 72) C dX9_seeds_72 (by first | omega | (rw [zand_7f]; omega)) (by first | omega | (rw [zand_7f]; omega)) ?_
            refine r_iconst (pc := 73) C dX9_seeds_73 ?_
            refine r_aload_n (pc := 74) C 0 dX9_seeds_74 rfl rfl ?_
            refine r_get (pc := 75) C 0 0 1 dX9_seeds_75 in_X9 rfl rfl (ci := 9) rfl (by decide) tw_742 rfl rfl ?_
            refine r_iconst (pc := 78) C dX9_seeds_78 ?_
            refine r_ialoadE (pc := 79) C 2 0 dX9_seeds_79 rfl rfl (by decide) (by omega) (flat_0 _ (by decide)) ?_
            refine r_ishl (pc := 80) C dX9_seeds_80 (by omega) ?_
            refine r_irem (pc := 81) C dX9_seeds_81 (by first | omega | (rw [zand_7f]; omega)) (by first | omega | (rw [zand_7f]; omega)) ?_
            skip
            refine r_iastore (pc := 82) C 2 0 dX9_seeds_82 rfl rfl (by decide) (by omega) rfl (R_s0 _ _ _ _ (by decide)) ?_
            refine Wc.eq (gs' := wR G b (up1 R 5 (flat T)) (up (sSeed T z i).2 0 2 (sDraw (sSeed T z i).2 ((sSeed T z i).1 * 1664525 + 1013904223)))) ?_ rfl rfl rfl (by unfold sDraw; rw [Int.one_mul])
            refine r_aload_n (pc := 83) C 0 dX9_seeds_83 rfl rfl ?_
            refine r_callV (pc := 84) (is := [0, 1, 2, 3, 4, 5, 6, 7, 8]) C YX9_goes dX9_seeds_84 tw_917 (c_X9_goes l G _ _ _ (IT_open hU hdr) (by show (sSeed T z i).2 0 4 < 1100; omega)) 0 0 rfl rfl (ci := 9) rfl rfl rfl (by decide) rfl rfl (Nat.le_of_ble_eq_true rfl) ⟨rfl, rfl, by decide, by decide⟩ (jst_v (R_uall ..) ?_)
            refine r_iinc (pc := 87) C dX9_seeds_87 rfl ?_
            refine r_goto (pc := 90) (tgt := 43) C dX9_seeds_90 (by decide) ?_
            refine Wc.to (ih (i + 1) (by omega) (by omega) (by omega) ) rfl (lsub_s (by first | rfl | (rw [sSeed_s T z h0])) (lsub_s (by first | rfl | (rw [sSeed_s T z h0])) (lsub_n (lsub_s (by first | rfl | (rw [sSeed_s T z h0])) (lsub_n (lsub_s (by first | rfl | (rw [sSeed_s T z h0])) (lsub_s (by first | rfl | (rw [sSeed_s T z h0])) lsub_0))))))) (by rw [sSeed_s T z h0])
      refine Wc.to (L43 ((m - (0)).toNat + 1) (0) (by omega) (by omega) (by omega) ) rfl (lsub_s rfl (lsub_s rfl (lsub_n (lsub_s rfl (lsub_n (lsub_s rfl (lsub_s rfl lsub_0))))))) (by rfl)
    · refine r_aload_n (pc := 26) C 0 dX9_seeds_26 rfl rfl ?_
      refine r_iload (pc := 27) C dX9_seeds_27 rfl ?_
      refine r_callV (pc := 29) (is := [0, 1, 2, 3, 4, 5, 6, 7, 8]) C YX9_refuse dX9_seeds_29 tw_785 (c_X9_refuse l G _ _ _ _ (by first | assumption | omega | exact zand_rng _ _ | exact zor_rng _ _ | exact zxor_rng _ _ | exact BT.r (IT.b (by assumption)) _ _)) 0 0 rfl rfl (ci := 9) rfl rfl rfl (by decide) rfl rfl (Nat.le_of_ble_eq_true rfl) ⟨rfl, rfl, by decide, by decide⟩ (jst_i (R_uall ..) ?_)
      exact r_iret (pc := 32) C hQ dX9_seeds_32 rfl (fin_noR (by unfold q_lo; (repeat (first | rw [if_pos (by omega)] | rw [if_neg (by omega)])); (try first | rfl | assumption | omega)) (by omega) rfl)
  · refine r_iconst (pc := 8) C dX9_seeds_8 ?_
    refine r_goto (pc := 9) (tgt := 19) C dX9_seeds_9 (by decide) ?_
    refine r_istore (pc := 19) C dX9_seeds_19 (Nat.le_of_ble_eq_true rfl) ?_
    refine r_iload (pc := 21) C dX9_seeds_21 rfl ?_
    refine r_if_eq (pc := 23) (tgt := 33) C dX9_seeds_23 (by decide) (by first | omega | exact zand_rng _ _ | exact BT.r (IT.b hI) _ _ | exact BT.r (IT.b hU) _ _) (fun c23 => absurd c23 (by omega)) (fun c23 => ?_)
    refine r_aload_n (pc := 26) C 0 dX9_seeds_26 rfl rfl ?_
    refine r_iload (pc := 27) C dX9_seeds_27 rfl ?_
    refine r_callV (pc := 29) (is := [0, 1, 2, 3, 4, 5, 6, 7, 8]) C YX9_refuse dX9_seeds_29 tw_785 (c_X9_refuse l G _ _ _ _ (by first | assumption | omega | exact zand_rng _ _ | exact zor_rng _ _ | exact zxor_rng _ _ | exact BT.r (IT.b (by assumption)) _ _)) 0 0 rfl rfl (ci := 9) rfl rfl rfl (by decide) rfl rfl (Nat.le_of_ble_eq_true rfl) ⟨rfl, rfl, by decide, by decide⟩ (jst_i (R_uall ..) ?_)
    exact r_iret (pc := 32) C hQ dX9_seeds_32 rfl (fin_noR (by unfold q_lo; (repeat (first | rw [if_pos (by omega)] | rw [if_neg (by omega)])); (try first | rfl | assumption | omega)) (by omega) rfl)

set_option maxRecDepth 100000 in
set_option maxHeartbeats 4000000 in
theorem c_X9_staysOf (l : Launch) (G : GT) (b : Nat → Nat) (R T : Tn) (s q k : Int) (hI : IT T) (hk9 : T 0 4 ≤ 999) (hs : 0 ≤ s ∧ s < 256) (hq : 0 ≤ q ∧ q < T 0 0) (hk40 : 0 ≤ k ∧ k ≤ 40) : Cn l yX9_staysOf cX9_staysOf 6 (Option.some .int) ({ frames := 7, cells := 0, slots := 0, locals := 156 }) G [.ref (b 0), .int (iI s), .int (iI q), .int (iI k)] (wR G b R T) (jst (some (.int (iI (v_stay T s q k)))) (wR G b (up1 R 5 (flat T)) T)) := by
  refine Cn_in RX9 [some (.ref (b 0)), some (.int (iI s)), some (.int (iI q)), some (.int (iI k)), none, none] (by decide +kernel) rfl rfl rfl (Nat.le_of_ble_eq_true rfl) (fun K C hQ => ?_)
  have hBB := hI.b
  have hLL := hI.L
  have hDD := hI.D
  have hkk := hI.k
  refine r_aload_n (pc := 0) C 0 dX9_staysOf_0 rfl rfl ?_
  refine r_callV (pc := 1) (is := [0, 1, 2, 3, 4, 5, 6, 7, 8]) C YX9_begins dX9_staysOf_1 tw_933 (c_X9_begins l G _ _ _) 0 0 rfl rfl (ci := 9) rfl rfl rfl (by decide) rfl rfl (Nat.le_of_ble_eq_true rfl) ⟨rfl, rfl, by decide, by decide⟩ (jst_v (R_uall ..) ?_)
  refine r_iconst (pc := 4) C dX9_staysOf_4 ?_
  refine r_istore (pc := 5) C dX9_staysOf_5 (Nat.le_of_ble_eq_true rfl) ?_
  have L7 : ∀ (n : Nat) (i : Int), 0 ≤ i → i ≤ T 0 1 → T 0 1 < i + n → Wc K G 7 [some (.ref (b 0)), some (.int (iI s)), some (.int (iI q)), some (.int (iI k)), some (.int (iI i)), none] [] (wR G b (up1 R 5 (flat T)) (sPutS T s q i)) := by
    intro n
    induction n with
    | zero =>
      intro i h0 h1 hn; omega
    | succ n ih =>
      intro i h0 h1 hn 
      obtain ⟨hU, hU2⟩ := sPutS_p hI s hq h0
      have e1 : sPutS T s q i 0 1 = T 0 1 := by rw [hU2 0 (by decide)]
      have e4 : sPutS T s q i 0 4 = T 0 4 := by rw [hU2 0 (by decide)]
      refine r_iload (pc := 7) C dX9_staysOf_7 rfl ?_
      refine r_aload_n (pc := 9) C 0 dX9_staysOf_9 rfl rfl ?_
      refine r_get (pc := 10) C 0 0 1 dX9_staysOf_10 in_X9 rfl rfl (ci := 9) rfl (by decide) tw_742 rfl rfl ?_
      refine r_iconst (pc := 13) C dX9_staysOf_13 ?_
      refine r_ialoadE (pc := 14) C 2 0 dX9_staysOf_14 rfl rfl (by decide) (by omega) (flat_0 _ (by decide)) ?_
      refine r_icmp_ge (pc := 15) (tgt := 42) C dX9_staysOf_15 (by decide) (by first | omega | exact zand_rng _ _ | exact zor_rng _ _ | exact zxor_rng _ _ | exact BT.r (IT.b (by assumption)) _ _) (by first | omega | exact zand_rng _ _ | exact zor_rng _ _ | exact zxor_rng _ _ | exact BT.r (IT.b (by assumption)) _ _) (fun c15 => ?_) (fun c15 => ?_)
      · obtain rfl : i = T 0 1 := by omega
        refine r_aload_n (pc := 42) C 0 dX9_staysOf_42 rfl rfl ?_
        refine r_iload_n (pc := 43) C 3 dX9_staysOf_43 rfl rfl ?_
        refine r_callV (pc := 44) (is := [0, 1, 2, 3, 4, 5, 6, 7, 8]) C YX9_goesFor dX9_staysOf_44 tw_937 (c_X9_goesFor l G _ _ _ _ (by first | assumption | omega | exact zand_rng _ _ | exact zor_rng _ _ | exact zxor_rng _ _ | exact BT.r (IT.b (by assumption)) _ _) (by first | assumption | omega | exact zand_rng _ _ | exact zor_rng _ _ | exact zxor_rng _ _ | exact BT.r (IT.b (by assumption)) _ _) (by first | assumption | omega | exact zand_rng _ _ | exact zor_rng _ _ | exact zxor_rng _ _ | exact BT.r (IT.b (by assumption)) _ _)) 0 0 rfl rfl (ci := 9) rfl rfl rfl (by decide) rfl rfl (Nat.le_of_ble_eq_true rfl) ⟨rfl, rfl, by decide, by decide⟩ (jst_v (R_uall ..) ?_)
        obtain ⟨hA, hA1⟩ := sStayU_p hI s hq hk40.1 (by omega)
        have hAD := hA.D
        refine r_iconst (pc := 47) C dX9_staysOf_47 ?_
        refine r_istore (pc := 48) C dX9_staysOf_48 (Nat.le_of_ble_eq_true rfl) ?_
        refine r_iconst (pc := 50) C dX9_staysOf_50 ?_
        refine r_istore (pc := 51) C dX9_staysOf_51 (Nat.le_of_ble_eq_true rfl) ?_
        have L53 : ∀ (n : Nat) (i : Int), 0 ≤ i → i ≤ (sStayU T s q k 0 1) → (sStayU T s q k 0 1) < i + n → Wc K G 53 [some (.ref (b 0)), some (.int (iI s)), some (.int (iI q)), some (.int (iI k)), some (.int (iI (sStayV (sStayU T s q k) s q i))), some (.int (iI i))] [] (wR G b (up1 R 5 (flat T)) (sStayU T s q k)) := by
          intro n
          induction n with
          | zero =>
            intro i h0 h1 hn; omega
          | succ n ih =>
            intro i h0 h1 hn 
            have hW := sStayV_r hA s q h0 h1
            refine r_iload (pc := 53) C dX9_staysOf_53 rfl ?_
            refine r_aload_n (pc := 55) C 0 dX9_staysOf_55 rfl rfl ?_
            refine r_get (pc := 56) C 0 0 1 dX9_staysOf_56 in_X9 rfl rfl (ci := 9) rfl (by decide) tw_742 rfl rfl ?_
            refine r_iconst (pc := 59) C dX9_staysOf_59 ?_
            refine r_ialoadE (pc := 60) C 2 0 dX9_staysOf_60 rfl rfl (by decide) (by omega) (flat_0 _ (by decide)) ?_
            refine r_icmp_ge (pc := 61) (tgt := 106) C dX9_staysOf_61 (by decide) (by first | omega | exact zand_rng _ _ | exact zor_rng _ _ | exact zxor_rng _ _ | exact BT.r (IT.b (by assumption)) _ _) (by first | omega | exact zand_rng _ _ | exact zor_rng _ _ | exact zxor_rng _ _ | exact BT.r (IT.b (by assumption)) _ _) (fun c61 => ?_) (fun c61 => ?_)
            · refine r_aload_n (pc := 106) C 0 dX9_staysOf_106 rfl rfl ?_
              refine r_callV (pc := 107) (is := [0, 1, 2, 3, 4, 5, 6, 7, 8]) C YX9_ends dX9_staysOf_107 tw_941 (c_X9_ends l G _ _ _ _ rfl) 0 0 rfl rfl (ci := 9) rfl rfl rfl (by decide) rfl rfl (Nat.le_of_ble_eq_true rfl) ⟨rfl, rfl, by decide, by decide⟩ (jst_v (R_uall ..) ?_)
              refine r_iload (pc := 110) C dX9_staysOf_110 rfl ?_
              exact r_iret (pc := 112) C hQ dX9_staysOf_112 rfl (jst_ri (by unfold v_stay; rw [show sStayU T s q k 0 1 = i by omega]) rfl)
            · refine r_iload (pc := 64) C dX9_staysOf_64 rfl ?_
              refine r_iload_n (pc := 66) C 1 dX9_staysOf_66 rfl rfl ?_
              refine r_iload (pc := 67) C dX9_staysOf_67 rfl ?_
              refine r_ishr (pc := 69) C dX9_staysOf_69 (by first | omega | exact zand_rng _ _ | exact zor_rng _ _ | exact zxor_rng _ _ | exact BT.r (IT.b (by assumption)) _ _) (by omega) ?_
              refine r_iconst (pc := 70) C dX9_staysOf_70 ?_
              refine r_iand (pc := 71) C dX9_staysOf_71 ?_
              refine r_iconst (pc := 72) C dX9_staysOf_72 ?_
              refine r_icmp_ne (pc := 73) (tgt := 96) C dX9_staysOf_73 (by decide) (by first | omega | exact zand_rng _ _ | exact zor_rng _ _ | exact zxor_rng _ _ | exact BT.r (IT.b (by assumption)) _ _) (by first | omega | exact zand_rng _ _ | exact zor_rng _ _ | exact zxor_rng _ _ | exact BT.r (IT.b (by assumption)) _ _) (fun c73 => ?_) (fun c73 => ?_)
              · refine r_iconst (pc := 96) C dX9_staysOf_96 ?_
                refine r_iadd (pc := 97) C dX9_staysOf_97 ?_
                refine r_istore (pc := 98) C dX9_staysOf_98 (Nat.le_of_ble_eq_true rfl) ?_
                refine r_iinc (pc := 100) C dX9_staysOf_100 rfl ?_
                refine r_goto (pc := 103) (tgt := 53) C dX9_staysOf_103 (by decide) ?_
                refine Wc.to (ih (i + 1) (by omega) (by omega) (by omega) ) rfl (lsub_s (by first | rfl | ((try rw [zand_1] at c73); rw [sStayV_s _ s q h0]; first | rw [if_pos (by unfold zbit; omega)] | rw [if_neg (by unfold zbit; omega)])) (lsub_s (by first | rfl | ((try rw [zand_1] at c73); rw [sStayV_s _ s q h0]; first | rw [if_pos (by unfold zbit; omega)] | rw [if_neg (by unfold zbit; omega)])) (lsub_s (by first | rfl | ((try rw [zand_1] at c73); rw [sStayV_s _ s q h0]; first | rw [if_pos (by unfold zbit; omega)] | rw [if_neg (by unfold zbit; omega)])) (lsub_s (by first | rfl | ((try rw [zand_1] at c73); rw [sStayV_s _ s q h0]; first | rw [if_pos (by unfold zbit; omega)] | rw [if_neg (by unfold zbit; omega)])) (lsub_s (by first | rfl | ((try rw [zand_1] at c73); rw [sStayV_s _ s q h0]; first | rw [if_pos (by unfold zbit; omega)] | rw [if_neg (by unfold zbit; omega)])) (lsub_s (by first | rfl | ((try rw [zand_1] at c73); rw [sStayV_s _ s q h0]; first | rw [if_pos (by unfold zbit; omega)] | rw [if_neg (by unfold zbit; omega)])) lsub_0)))))) (by rfl)
              · refine r_aload_n (pc := 76) C 0 dX9_staysOf_76 rfl rfl ?_
                refine r_iload (pc := 77) C dX9_staysOf_77 rfl ?_
                refine r_iconst (pc := 79) C dX9_staysOf_79 ?_
                refine r_callV (pc := 80) (is := [0, 1, 2, 3, 4, 5, 6, 7, 8]) C YX9_get dX9_staysOf_80 tw_842 (c_X9_get3 l G _ _ _ _ (by first | assumption | omega | exact zand_rng _ _ | exact zor_rng _ _ | exact zxor_rng _ _ | exact BT.r (IT.b (by assumption)) _ _)) 0 0 rfl rfl (ci := 9) rfl rfl rfl (by decide) rfl rfl (Nat.le_of_ble_eq_true rfl) ⟨rfl, rfl, by decide, by decide⟩ (jst_i (R_uall ..) ?_)
                refine r_iload_n (pc := 83) C 2 dX9_staysOf_83 rfl rfl ?_
                refine r_icmp_ne (pc := 84) (tgt := 96) C dX9_staysOf_84 (by decide) (by first | omega | exact zand_rng _ _ | exact zor_rng _ _ | exact zxor_rng _ _ | exact BT.r (IT.b (by assumption)) _ _) (by first | omega | exact zand_rng _ _ | exact zor_rng _ _ | exact zxor_rng _ _ | exact BT.r (IT.b (by assumption)) _ _) (fun c84 => ?_) (fun c84 => ?_)
                · refine r_iconst (pc := 96) C dX9_staysOf_96 ?_
                  refine r_iadd (pc := 97) C dX9_staysOf_97 ?_
                  refine r_istore (pc := 98) C dX9_staysOf_98 (Nat.le_of_ble_eq_true rfl) ?_
                  refine r_iinc (pc := 100) C dX9_staysOf_100 rfl ?_
                  refine r_goto (pc := 103) (tgt := 53) C dX9_staysOf_103 (by decide) ?_
                  refine Wc.to (ih (i + 1) (by omega) (by omega) (by omega) ) rfl (lsub_s (by first | rfl | ((try rw [zand_1] at c73); rw [sStayV_s _ s q h0]; first | rw [if_pos (by unfold zbit; omega)] | rw [if_neg (by unfold zbit; omega)])) (lsub_s (by first | rfl | ((try rw [zand_1] at c73); rw [sStayV_s _ s q h0]; first | rw [if_pos (by unfold zbit; omega)] | rw [if_neg (by unfold zbit; omega)])) (lsub_s (by first | rfl | ((try rw [zand_1] at c73); rw [sStayV_s _ s q h0]; first | rw [if_pos (by unfold zbit; omega)] | rw [if_neg (by unfold zbit; omega)])) (lsub_s (by first | rfl | ((try rw [zand_1] at c73); rw [sStayV_s _ s q h0]; first | rw [if_pos (by unfold zbit; omega)] | rw [if_neg (by unfold zbit; omega)])) (lsub_s (by first | rfl | ((try rw [zand_1] at c73); rw [sStayV_s _ s q h0]; first | rw [if_pos (by unfold zbit; omega)] | rw [if_neg (by unfold zbit; omega)])) (lsub_s (by first | rfl | ((try rw [zand_1] at c73); rw [sStayV_s _ s q h0]; first | rw [if_pos (by unfold zbit; omega)] | rw [if_neg (by unfold zbit; omega)])) lsub_0)))))) (by rfl)
                · refine r_aload_n (pc := 87) C 0 dX9_staysOf_87 rfl rfl ?_
                  refine r_iload (pc := 88) C dX9_staysOf_88 rfl ?_
                  refine r_callV (pc := 90) (is := [0, 1, 2, 3, 4, 5, 6, 7, 8]) C YX9_valueOf dX9_staysOf_90 tw_846 (c_X9_valueOf l G _ _ _ _ (by first | assumption | omega | exact zand_rng _ _ | exact zor_rng _ _ | exact zxor_rng _ _ | exact BT.r (IT.b (by assumption)) _ _) (by first | assumption | omega | exact zand_rng _ _ | exact zor_rng _ _ | exact zxor_rng _ _ | exact BT.r (IT.b (by assumption)) _ _)) 0 0 rfl rfl (ci := 9) rfl rfl rfl (by decide) rfl rfl (Nat.le_of_ble_eq_true rfl) ⟨rfl, rfl, by decide, by decide⟩ (jst_i (R_uall ..) ?_)
                  refine r_goto (pc := 93) (tgt := 97) C dX9_staysOf_93 (by decide) ?_
                  refine r_iadd (pc := 97) C dX9_staysOf_97 ?_
                  refine r_istore (pc := 98) C dX9_staysOf_98 (Nat.le_of_ble_eq_true rfl) ?_
                  refine r_iinc (pc := 100) C dX9_staysOf_100 rfl ?_
                  refine r_goto (pc := 103) (tgt := 53) C dX9_staysOf_103 (by decide) ?_
                  refine Wc.to (ih (i + 1) (by omega) (by omega) (by omega) ) rfl (lsub_s (by first | rfl | ((try rw [zand_1] at c73); rw [sStayV_s _ s q h0]; first | rw [if_pos (by unfold zbit; omega)] | rw [if_neg (by unfold zbit; omega)])) (lsub_s (by first | rfl | ((try rw [zand_1] at c73); rw [sStayV_s _ s q h0]; first | rw [if_pos (by unfold zbit; omega)] | rw [if_neg (by unfold zbit; omega)])) (lsub_s (by first | rfl | ((try rw [zand_1] at c73); rw [sStayV_s _ s q h0]; first | rw [if_pos (by unfold zbit; omega)] | rw [if_neg (by unfold zbit; omega)])) (lsub_s (by first | rfl | ((try rw [zand_1] at c73); rw [sStayV_s _ s q h0]; first | rw [if_pos (by unfold zbit; omega)] | rw [if_neg (by unfold zbit; omega)])) (lsub_s (by first | rfl | ((try rw [zand_1] at c73); rw [sStayV_s _ s q h0]; first | rw [if_pos (by unfold zbit; omega)] | rw [if_neg (by unfold zbit; omega)])) (lsub_s (by first | rfl | ((try rw [zand_1] at c73); rw [sStayV_s _ s q h0]; first | rw [if_pos (by unfold zbit; omega)] | rw [if_neg (by unfold zbit; omega)])) lsub_0)))))) (by rfl)
        refine Wc.to (L53 (((sStayU T s q k 0 1) - (0)).toNat + 1) (0) (by omega) (by omega) (by omega) ) rfl (lsub_s rfl (lsub_s rfl (lsub_s rfl (lsub_s rfl (lsub_s rfl (lsub_s rfl lsub_0)))))) (by rfl)
      · refine r_iload_n (pc := 18) C 1 dX9_staysOf_18 rfl rfl ?_
        refine r_iload (pc := 19) C dX9_staysOf_19 rfl ?_
        refine r_ishr (pc := 21) C dX9_staysOf_21 (by first | omega | exact zand_rng _ _ | exact zor_rng _ _ | exact zxor_rng _ _ | exact BT.r (IT.b (by assumption)) _ _) (by omega) ?_
        refine r_iconst (pc := 22) C dX9_staysOf_22 ?_
        refine r_iand (pc := 23) C dX9_staysOf_23 ?_
        refine r_iconst (pc := 24) C dX9_staysOf_24 ?_
        refine r_icmp_ne (pc := 25) (tgt := 36) C dX9_staysOf_25 (by decide) (by first | omega | exact zand_rng _ _ | exact zor_rng _ _ | exact zxor_rng _ _ | exact BT.r (IT.b (by assumption)) _ _) (by first | omega | exact zand_rng _ _ | exact zor_rng _ _ | exact zxor_rng _ _ | exact BT.r (IT.b (by assumption)) _ _) (fun c25 => ?_) (fun c25 => ?_)
        · refine r_iinc (pc := 36) C dX9_staysOf_36 rfl ?_
          refine r_goto (pc := 39) (tgt := 7) C dX9_staysOf_39 (by decide) ?_
          refine Wc.to (ih (i + 1) (by omega) (by omega) (by omega) ) rfl (lsub_s rfl (lsub_s rfl (lsub_s rfl (lsub_s rfl (lsub_s rfl (lsub_n lsub_0)))))) (by (try rw [zand_1] at c25); rw [sPutS_s T s q h0]; first | rw [if_pos (by unfold zbit; omega)] | rw [if_neg (by unfold zbit; omega)])
        · refine r_aload_n (pc := 28) C 0 dX9_staysOf_28 rfl rfl ?_
          refine r_iload (pc := 29) C dX9_staysOf_29 rfl ?_
          refine r_iconst (pc := 31) C dX9_staysOf_31 ?_
          refine r_iload_n (pc := 32) C 2 dX9_staysOf_32 rfl rfl ?_
          refine r_callV (pc := 33) (is := [0, 1, 2, 3, 4, 5, 6, 7, 8]) C YX9_puts dX9_staysOf_33 tw_893 (c_X9_puts3 l G _ _ _ _ _ (by first | assumption | omega | exact zand_rng _ _ | exact zor_rng _ _ | exact zxor_rng _ _ | exact BT.r (IT.b (by assumption)) _ _)) 0 0 rfl rfl (ci := 9) rfl rfl rfl (by decide) rfl rfl (Nat.le_of_ble_eq_true rfl) ⟨rfl, rfl, by decide, by decide⟩ (jst_v (R_uall ..) ?_)
          refine r_iinc (pc := 36) C dX9_staysOf_36 rfl ?_
          refine r_goto (pc := 39) (tgt := 7) C dX9_staysOf_39 (by decide) ?_
          refine Wc.to (ih (i + 1) (by omega) (by omega) (by omega) ) rfl (lsub_s rfl (lsub_s rfl (lsub_s rfl (lsub_s rfl (lsub_s rfl (lsub_n lsub_0)))))) (by (try rw [zand_1] at c25); rw [sPutS_s T s q h0]; first | rw [if_pos (by unfold zbit; omega)] | rw [if_neg (by unfold zbit; omega)])
  refine Wc.to (L7 ((T 0 1 - (0)).toNat + 1) (0) (by omega) (by omega) (by omega) ) rfl (lsub_s rfl (lsub_s rfl (lsub_s rfl (lsub_s rfl (lsub_s rfl (lsub_n lsub_0)))))) (by rfl)

set_option maxRecDepth 100000 in
set_option maxHeartbeats 4000000 in
theorem c_X9_stays (l : Launch) (G : GT) (b : Nat → Nat) (R T : Tn) (s q k : Int) (hI : IT T) (hR : IR R) (hk9 : T 0 4 ≤ 999) (gs : -2147483648 ≤ s ∧ s < 2147483648) (gq : -2147483648 ≤ q ∧ q < 2147483648) (gk : -2147483648 ≤ k ∧ k < 2147483648) : Cn l yX9_stays cX9_stays 5 (Option.some .int) ({ frames := 8, cells := 0, slots := 0, locals := 181 }) G [.ref (b 0), .int (iI s), .int (iI q), .int (iI k)] (wR G b R T) (jst (some (.int (iI (zans (q_stays T s q k) (v_stay T s q k))))) (wR G b (zif (q_stays T s q k) (up1 R 5 (flat T)) (rfs R (q_stays T s q k))) (zif (q_stays T s q k) (T) T))) := by
  refine Cn_in RX9 [some (.ref (b 0)), some (.int (iI s)), some (.int (iI q)), some (.int (iI k)), none] (by decide +kernel) rfl rfl rfl (Nat.le_of_ble_eq_true rfl) (fun K C hQ => ?_)
  obtain ⟨r0, r1, r3, r6, r8⟩ := hR
  have hBB := hI.b
  have hLL := hI.L
  have hDD := hI.D
  have hkk := hI.k
  have hzp := zp2_r (L := T 0 1) (by omega)
  refine r_aload_n (pc := 0) C 0 dX9_stays_0 rfl rfl ?_
  refine r_iload_n (pc := 1) C 1 dX9_stays_1 rfl rfl ?_
  refine r_callV (pc := 2) (is := [0, 1, 2, 3, 4, 5, 6, 7, 8]) C YX9_areDoves dX9_stays_2 tw_954 (c_X9_areDoves l G _ _ _ _ (by first | assumption | omega | exact zand_rng _ _ | exact zor_rng _ _ | exact zxor_rng _ _ | exact BT.r (IT.b (by assumption)) _ _) (by first | assumption | omega | exact zand_rng _ _ | exact zor_rng _ _ | exact zxor_rng _ _ | exact BT.r (IT.b (by assumption)) _ _)) 0 0 rfl rfl (ci := 9) rfl rfl rfl (by decide) rfl rfl (Nat.le_of_ble_eq_true rfl) ⟨rfl, rfl, by decide, by decide⟩ (jst_i (R_uall ..) ?_)
  have hz2 := zc_r (pAre T s)
  refine r_if_eq (pc := 5) (tgt := 16) C dX9_stays_5 (by decide) (by first | omega | exact zand_rng _ _ | exact zor_rng _ _ | exact zxor_rng _ _ | exact BT.r (IT.b (by assumption)) _ _) (fun c5 => ?_) (fun c5 => ?_)
  · refine r_iconst (pc := 16) C dX9_stays_16 ?_
    refine r_goto (pc := 17) (tgt := 27) C dX9_stays_17 (by decide) ?_
    refine r_istore (pc := 27) C dX9_stays_27 (Nat.le_of_ble_eq_true rfl) ?_
    refine r_iload (pc := 29) C dX9_stays_29 rfl ?_
    refine r_if_eq (pc := 31) (tgt := 43) C dX9_stays_31 (by decide) (by first | omega | exact zand_rng _ _ | exact zor_rng _ _ | exact zxor_rng _ _ | exact BT.r (IT.b (by assumption)) _ _) (fun c31 => absurd c31 (by omega)) (fun c31 => ?_)
    refine r_aload_n (pc := 34) C 0 dX9_stays_34 rfl rfl ?_
    refine r_iload (pc := 35) C dX9_stays_35 rfl ?_
    refine r_callV (pc := 37) (is := [0, 1, 2, 3, 4, 5, 6, 7, 8]) C YX9_refuse dX9_stays_37 tw_785 (c_X9_refuse l G _ _ _ _ (by first | assumption | omega | exact zand_rng _ _ | exact zor_rng _ _ | exact zxor_rng _ _ | exact BT.r (IT.b (by assumption)) _ _)) 0 0 rfl rfl (ci := 9) rfl rfl rfl (by decide) rfl rfl (Nat.le_of_ble_eq_true rfl) ⟨rfl, rfl, by decide, by decide⟩ (jst_i (R_uall ..) ?_)
    refine r_goto (pc := 40) (tgt := 50) C dX9_stays_40 (by decide) ?_
    exact r_iret (pc := 50) C hQ dX9_stays_50 rfl (fin_noR (by unfold q_stays; (repeat (first | rw [if_pos (by omega)] | rw [if_neg (by omega)])); (try first | rfl | assumption | omega)) (by omega) rfl)
  · refine r_aload_n (pc := 8) C 0 dX9_stays_8 rfl rfl ?_
    refine r_iload_n (pc := 9) C 2 dX9_stays_9 rfl rfl ?_
    refine r_callV (pc := 10) (is := [0, 1, 2, 3, 4, 5, 6, 7, 8]) C YX9_isLoft dX9_stays_10 tw_834 (c_X9_isLoft l G _ _ _ _ (by first | assumption | omega | exact zand_rng _ _ | exact zor_rng _ _ | exact zxor_rng _ _ | exact BT.r (IT.b (by assumption)) _ _) (by first | assumption | omega | exact zand_rng _ _ | exact zor_rng _ _ | exact zxor_rng _ _ | exact BT.r (IT.b (by assumption)) _ _)) 0 0 rfl rfl (ci := 9) rfl rfl rfl (by decide) rfl rfl (Nat.le_of_ble_eq_true rfl) ⟨rfl, rfl, by decide, by decide⟩ (jst_i (R_uall ..) ?_)
    refine r_ifb_ne (pc := 13) (tgt := 20) C dX9_stays_13 (by decide) (fun c13 => ?_) (fun c13 => ?_)
    · refine r_iload_n (pc := 20) C 3 dX9_stays_20 rfl rfl ?_
      refine r_iconst (pc := 21) C dX9_stays_21 ?_
      refine r_bipush (pc := 22) C dX9_stays_22 (by decide) ?_
      refine r_callS (pc := 24) (is := []) C YX9_within dX9_stays_24 tw_782 (c_X9_within l G _ _ _ (by first | assumption | omega | exact zand_rng _ _ | exact zor_rng _ _ | exact zxor_rng _ _ | exact BT.r (IT.b (by assumption)) _ _) (by first | assumption | omega | exact zand_rng _ _ | exact zor_rng _ _ | exact zxor_rng _ _ | exact BT.r (IT.b (by assumption)) _ _) (by first | assumption | omega | exact zand_rng _ _ | exact zor_rng _ _ | exact zxor_rng _ _ | exact BT.r (IT.b (by assumption)) _ _)) rfl (by decide) rfl rfl (Nat.le_of_ble_eq_true rfl) ⟨rfl, rfl, by decide, by decide⟩ (jst_i rfl ?_)
      have hs24 := sOut_r k 0 40 (by decide)
      refine r_istore (pc := 27) C dX9_stays_27 (Nat.le_of_ble_eq_true rfl) ?_
      refine r_iload (pc := 29) C dX9_stays_29 rfl ?_
      refine r_if_eq (pc := 31) (tgt := 43) C dX9_stays_31 (by decide) (by first | omega | exact zand_rng _ _ | exact zor_rng _ _ | exact zxor_rng _ _ | exact BT.r (IT.b (by assumption)) _ _) (fun c31 => ?_) (fun c31 => ?_)
      · refine r_aload_n (pc := 43) C 0 dX9_stays_43 rfl rfl ?_
        refine r_iload_n (pc := 44) C 1 dX9_stays_44 rfl rfl ?_
        refine r_iload_n (pc := 45) C 2 dX9_stays_45 rfl rfl ?_
        refine r_iload_n (pc := 46) C 3 dX9_stays_46 rfl rfl ?_
        refine r_callV (pc := 47) (is := [0, 1, 2, 3, 4, 5, 6, 7, 8]) C YX9_staysOf dX9_stays_47 tw_958 (c_X9_staysOf l G _ _ _ _ _ _ (by first | assumption | omega | exact zand_rng _ _ | exact zor_rng _ _ | exact zxor_rng _ _ | exact BT.r (IT.b (by assumption)) _ _) (by first | assumption | omega | exact zand_rng _ _ | exact zor_rng _ _ | exact zxor_rng _ _ | exact BT.r (IT.b (by assumption)) _ _) (by obtain ⟨z1, z2, -⟩ := zc_n c5; omega) (by first | assumption | omega | exact zand_rng _ _ | exact zor_rng _ _ | exact zxor_rng _ _ | exact BT.r (IT.b (by assumption)) _ _) (by first | assumption | omega | exact zand_rng _ _ | exact zor_rng _ _ | exact zxor_rng _ _ | exact BT.r (IT.b (by assumption)) _ _)) 0 0 rfl rfl (ci := 9) rfl rfl rfl (by decide) rfl rfl (Nat.le_of_ble_eq_true rfl) ⟨rfl, rfl, by decide, by decide⟩ (jst_i (R_uall ..) ?_)
        exact r_iret (pc := 50) C hQ dX9_stays_50 rfl (fin_okR (by unfold q_stays; (repeat (first | rw [if_pos (by omega)] | rw [if_neg (by omega)])); (try first | rfl | assumption | omega)) (by rfl) (by rfl))
      · refine r_aload_n (pc := 34) C 0 dX9_stays_34 rfl rfl ?_
        refine r_iload (pc := 35) C dX9_stays_35 rfl ?_
        refine r_callV (pc := 37) (is := [0, 1, 2, 3, 4, 5, 6, 7, 8]) C YX9_refuse dX9_stays_37 tw_785 (c_X9_refuse l G _ _ _ _ (by first | assumption | omega | exact zand_rng _ _ | exact zor_rng _ _ | exact zxor_rng _ _ | exact BT.r (IT.b (by assumption)) _ _)) 0 0 rfl rfl (ci := 9) rfl rfl rfl (by decide) rfl rfl (Nat.le_of_ble_eq_true rfl) ⟨rfl, rfl, by decide, by decide⟩ (jst_i (R_uall ..) ?_)
        refine r_goto (pc := 40) (tgt := 50) C dX9_stays_40 (by decide) ?_
        exact r_iret (pc := 50) C hQ dX9_stays_50 rfl (fin_noR (by unfold q_stays; (repeat (first | rw [if_pos (by omega)] | rw [if_neg (by omega)])); (try first | rfl | assumption | omega)) (by omega) rfl)
    · refine r_iconst (pc := 16) C dX9_stays_16 ?_
      refine r_goto (pc := 17) (tgt := 27) C dX9_stays_17 (by decide) ?_
      refine r_istore (pc := 27) C dX9_stays_27 (Nat.le_of_ble_eq_true rfl) ?_
      refine r_iload (pc := 29) C dX9_stays_29 rfl ?_
      refine r_if_eq (pc := 31) (tgt := 43) C dX9_stays_31 (by decide) (by first | omega | exact zand_rng _ _ | exact zor_rng _ _ | exact zxor_rng _ _ | exact BT.r (IT.b (by assumption)) _ _) (fun c31 => absurd c31 (by omega)) (fun c31 => ?_)
      refine r_aload_n (pc := 34) C 0 dX9_stays_34 rfl rfl ?_
      refine r_iload (pc := 35) C dX9_stays_35 rfl ?_
      refine r_callV (pc := 37) (is := [0, 1, 2, 3, 4, 5, 6, 7, 8]) C YX9_refuse dX9_stays_37 tw_785 (c_X9_refuse l G _ _ _ _ (by first | assumption | omega | exact zand_rng _ _ | exact zor_rng _ _ | exact zxor_rng _ _ | exact BT.r (IT.b (by assumption)) _ _)) 0 0 rfl rfl (ci := 9) rfl rfl rfl (by decide) rfl rfl (Nat.le_of_ble_eq_true rfl) ⟨rfl, rfl, by decide, by decide⟩ (jst_i (R_uall ..) ?_)
      refine r_goto (pc := 40) (tgt := 50) C dX9_stays_40 (by decide) ?_
      exact r_iret (pc := 50) C hQ dX9_stays_50 rfl (fin_noR (by unfold q_stays; (repeat (first | rw [if_pos (by omega)] | rw [if_neg (by omega)])); (try first | rfl | assumption | omega)) (by omega) rfl)

set_option maxRecDepth 100000 in
set_option maxHeartbeats 4000000 in
theorem c_X9_count (l : Launch) (G : GT) (b : Nat → Nat) (R T : Tn) (w : Int) (hI : IT T) (hR : IR R) (gw : -2147483648 ≤ w ∧ w < 2147483648) : Cn l yX9_count cX9_count 4 (Option.some .int) ({ frames := 3, cells := 0, slots := 0, locals := 65 }) G [.ref (b 0), .int (iI w)] (wR G b R T) (jst (some (.int (iI (v_count R T w)))) (wR G b R T)) := by
  refine Cn_in RX9 [some (.ref (b 0)), some (.int (iI w)), none, none] (by decide +kernel) rfl rfl rfl (Nat.le_of_ble_eq_true rfl) (fun K C hQ => ?_)
  obtain ⟨r0, r1, r3, r6, r8⟩ := hR
  have hBB := hI.b
  have hLL := hI.L
  have hDD := hI.D
  refine r_iload_n (pc := 0) C 1 dX9_count_0 rfl rfl ?_
  refine r_bipush (pc := 1) C dX9_count_1 (by decide) ?_
  refine r_icmp_le (pc := 3) (tgt := 22) C dX9_count_3 (by decide) (by first | omega | exact zand_rng _ _ | exact zor_rng _ _ | exact zxor_rng _ _ | exact BT.r (IT.b (by assumption)) _ _) (by first | omega | exact zand_rng _ _ | exact zor_rng _ _ | exact zxor_rng _ _ | exact BT.r (IT.b (by assumption)) _ _) (fun c3 => ?_) (fun c3 => ?_)
  · refine r_iconst (pc := 22) C dX9_count_22 ?_
    refine r_istore_n (pc := 23) C 2 dX9_count_23 rfl (Nat.le_of_ble_eq_true rfl) ?_
    refine r_iload_n (pc := 24) C 1 dX9_count_24 rfl rfl ?_
    by_cases s25_0 : w = 0
    · refine r_tblIn (pc := 25) (tgt := 76) C 0 dX9_count_25 s25_0 (by decide) (by decide) (by decide) rfl (by decide) ?_
      refine r_aload_n (pc := 76) C 0 dX9_count_76 rfl rfl ?_
      refine r_get (pc := 77) C 0 0 1 dX9_count_77 in_X9 rfl rfl (ci := 9) rfl (by decide) tw_742 rfl rfl ?_
      refine r_iconst (pc := 80) C dX9_count_80 ?_
      refine r_ialoadE (pc := 81) C 2 0 dX9_count_81 rfl rfl (by decide) (by omega) (flat_0 _ (by decide)) ?_
      exact r_iret (pc := 82) C hQ dX9_count_82 rfl (jst_ri (by unfold v_count; (repeat (first | rw [if_pos (by omega)] | rw [if_neg (by omega)])); (try first | rfl | omega)) rfl)
    by_cases s25_1 : w = 1
    · refine r_tblIn (pc := 25) (tgt := 83) C 1 dX9_count_25 s25_1 (by decide) (by decide) (by decide) rfl (by decide) ?_
      refine r_aload_n (pc := 83) C 0 dX9_count_83 rfl rfl ?_
      refine r_get (pc := 84) C 0 0 1 dX9_count_84 in_X9 rfl rfl (ci := 9) rfl (by decide) tw_742 rfl rfl ?_
      refine r_iconst (pc := 87) C dX9_count_87 ?_
      refine r_ialoadE (pc := 88) C 2 0 dX9_count_88 rfl rfl (by decide) (by omega) (flat_0 _ (by decide)) ?_
      exact r_iret (pc := 89) C hQ dX9_count_89 rfl (jst_ri (by unfold v_count; (repeat (first | rw [if_pos (by omega)] | rw [if_neg (by omega)])); (try first | rfl | omega)) rfl)
    by_cases s25_2 : w = 2
    · refine r_tblIn (pc := 25) (tgt := 90) C 2 dX9_count_25 s25_2 (by decide) (by decide) (by decide) rfl (by decide) ?_
      refine r_aload_n (pc := 90) C 0 dX9_count_90 rfl rfl ?_
      refine r_get (pc := 91) C 0 0 1 dX9_count_91 in_X9 rfl rfl (ci := 9) rfl (by decide) tw_742 rfl rfl ?_
      refine r_iconst (pc := 94) C dX9_count_94 ?_
      refine r_ialoadE (pc := 95) C 2 0 dX9_count_95 rfl rfl (by decide) (by omega) (flat_0 _ (by decide)) ?_
      exact r_iret (pc := 96) C hQ dX9_count_96 rfl (jst_ri (by unfold v_count; (repeat (first | rw [if_pos (by omega)] | rw [if_neg (by omega)])); (try first | rfl | omega)) rfl)
    by_cases s25_3 : w = 3
    · refine r_tblIn (pc := 25) (tgt := 97) C 3 dX9_count_25 s25_3 (by decide) (by decide) (by decide) rfl (by decide) ?_
      refine r_aload_n (pc := 97) C 0 dX9_count_97 rfl rfl ?_
      refine r_callV (pc := 98) (is := [0, 1, 2, 3, 4, 5, 6, 7, 8]) C YX9_lostMany dX9_count_98 tw_913 (c_X9_lostMany l G _ _ _ (by first | assumption | omega | exact zand_rng _ _ | exact zor_rng _ _ | exact zxor_rng _ _ | exact BT.r (IT.b (by assumption)) _ _)) 0 0 rfl rfl (ci := 9) rfl rfl rfl (by decide) rfl rfl (Nat.le_of_ble_eq_true rfl) ⟨rfl, rfl, by decide, by decide⟩ (jst_i (R_uall ..) ?_)
      exact r_iret (pc := 101) C hQ dX9_count_101 rfl (jst_ri (by unfold v_count; (repeat (first | rw [if_pos (by omega)] | rw [if_neg (by omega)])); (try first | rfl | omega)) rfl)
    by_cases s25_4 : w = 4
    · refine r_tblIn (pc := 25) (tgt := 102) C 4 dX9_count_25 s25_4 (by decide) (by decide) (by decide) rfl (by decide) ?_
      refine r_aload_n (pc := 102) C 0 dX9_count_102 rfl rfl ?_
      refine r_get (pc := 103) C 0 0 1 dX9_count_103 in_X9 rfl rfl (ci := 9) rfl (by decide) tw_742 rfl rfl ?_
      refine r_iconst (pc := 106) C dX9_count_106 ?_
      refine r_ialoadE (pc := 107) C 2 0 dX9_count_107 rfl rfl (by decide) (by omega) (flat_0 _ (by decide)) ?_
      exact r_iret (pc := 108) C hQ dX9_count_108 rfl (jst_ri (by unfold v_count; (repeat (first | rw [if_pos (by omega)] | rw [if_neg (by omega)])); (try first | rfl | omega)) rfl)
    by_cases s25_5 : w = 5
    · refine r_tblIn (pc := 25) (tgt := 109) C 5 dX9_count_25 s25_5 (by decide) (by decide) (by decide) rfl (by decide) ?_
      refine r_aload_n (pc := 109) C 0 dX9_count_109 rfl rfl ?_
      refine r_get (pc := 110) C 0 0 1 dX9_count_110 in_X9 rfl rfl (ci := 9) rfl (by decide) tw_742 rfl rfl ?_
      refine r_iconst (pc := 113) C dX9_count_113 ?_
      refine r_ialoadE (pc := 114) C 2 0 dX9_count_114 rfl rfl (by decide) (by omega) (flat_0 _ (by decide)) ?_
      exact r_iret (pc := 115) C hQ dX9_count_115 rfl (jst_ri (by unfold v_count; (repeat (first | rw [if_pos (by omega)] | rw [if_neg (by omega)])); (try first | rfl | omega)) rfl)
    by_cases s25_6 : w = 6
    · refine r_tblIn (pc := 25) (tgt := 116) C 6 dX9_count_25 s25_6 (by decide) (by decide) (by decide) rfl (by decide) ?_
      refine r_iconst (pc := 116) C dX9_count_116 ?_
      refine r_istore_n (pc := 117) C 3 dX9_count_117 rfl (Nat.le_of_ble_eq_true rfl) ?_
      have L118 : ∀ (n : Nat) (i : Int), 0 ≤ i → i ≤ T 0 1 → T 0 1 < i + n → Wc K G 118 [some (.ref (b 0)), some (.int (iI w)), some (.int (iI (sWorthN T i))), some (.int (iI i))] [] (wR G b R T) := by
        intro n
        induction n with
        | zero =>
          intro i h0 h1 hn; omega
        | succ n ih =>
          intro i h0 h1 hn 
          refine r_iload_n (pc := 118) C 3 dX9_count_118 rfl rfl ?_
          refine r_aload_n (pc := 119) C 0 dX9_count_119 rfl rfl ?_
          refine r_get (pc := 120) C 0 0 1 dX9_count_120 in_X9 rfl rfl (ci := 9) rfl (by decide) tw_742 rfl rfl ?_
          refine r_iconst (pc := 123) C dX9_count_123 ?_
          refine r_ialoadE (pc := 124) C 2 0 dX9_count_124 rfl rfl (by decide) (by omega) (flat_0 _ (by decide)) ?_
          refine r_icmp_ge (pc := 125) (tgt := 154) C dX9_count_125 (by decide) (by first | omega | exact zand_rng _ _ | exact zor_rng _ _ | exact zxor_rng _ _ | exact BT.r (IT.b (by assumption)) _ _) (by first | omega | exact zand_rng _ _ | exact zor_rng _ _ | exact zxor_rng _ _ | exact BT.r (IT.b (by assumption)) _ _) (fun c125 => ?_) (fun c125 => ?_)
          · refine r_iload_n (pc := 154) C 2 dX9_count_154 rfl rfl ?_
            exact r_iret (pc := 155) C hQ dX9_count_155 rfl (jst_ri (by first | (exfalso; omega) | (unfold v_count; (repeat (first | rw [if_pos (by omega)] | rw [if_neg (by omega)])); rw [show T 0 1 = i by omega])) rfl)
          · refine r_iload_n (pc := 128) C 2 dX9_count_128 rfl rfl ?_
            refine r_aload_n (pc := 129) C 0 dX9_count_129 rfl rfl ?_
            refine r_iload_n (pc := 130) C 3 dX9_count_130 rfl rfl ?_
            refine r_callV (pc := 131) (is := [0, 1, 2, 3, 4, 5, 6, 7, 8]) C YX9_isLost dX9_count_131 tw_854 (c_X9_isLost l G _ _ _ _ (by first | assumption | omega | exact zand_rng _ _ | exact zor_rng _ _ | exact zxor_rng _ _ | exact BT.r (IT.b (by assumption)) _ _) (by first | assumption | omega | exact zand_rng _ _ | exact zor_rng _ _ | exact zxor_rng _ _ | exact BT.r (IT.b (by assumption)) _ _)) 0 0 rfl rfl (ci := 9) rfl rfl rfl (by decide) rfl rfl (Nat.le_of_ble_eq_true rfl) ⟨rfl, rfl, by decide, by decide⟩ (jst_i (R_uall ..) ?_)
            refine r_ifb_eq (pc := 134) (tgt := 141) C dX9_count_134 (by decide) (fun c134 => ?_) (fun c134 => ?_)
            · refine r_aload_n (pc := 141) C 0 dX9_count_141 rfl rfl ?_
              refine r_iload_n (pc := 142) C 3 dX9_count_142 rfl rfl ?_
              refine r_callV (pc := 143) (is := [0, 1, 2, 3, 4, 5, 6, 7, 8]) C YX9_valueOf dX9_count_143 tw_846 (c_X9_valueOf l G _ _ _ _ (by first | assumption | omega | exact zand_rng _ _ | exact zor_rng _ _ | exact zxor_rng _ _ | exact BT.r (IT.b (by assumption)) _ _) (by first | assumption | omega | exact zand_rng _ _ | exact zor_rng _ _ | exact zxor_rng _ _ | exact BT.r (IT.b (by assumption)) _ _)) 0 0 rfl rfl (ci := 9) rfl rfl rfl (by decide) rfl rfl (Nat.le_of_ble_eq_true rfl) ⟨rfl, rfl, by decide, by decide⟩ (jst_i (R_uall ..) ?_)
              refine r_iadd (pc := 146) C dX9_count_146 ?_
              refine r_istore_n (pc := 147) C 2 dX9_count_147 rfl (Nat.le_of_ble_eq_true rfl) ?_
              refine r_iinc (pc := 148) C dX9_count_148 rfl ?_
              refine r_goto (pc := 151) (tgt := 118) C dX9_count_151 (by decide) ?_
              refine Wc.to (ih (i + 1) (by omega) (by omega) (by omega) ) rfl (lsub_s (by first | rfl | (first | (exfalso; omega) | (rw [sWorthN_s T h0]; first | rw [if_pos (by omega)] | rw [if_neg (by omega)]))) (lsub_s (by first | rfl | (first | (exfalso; omega) | (rw [sWorthN_s T h0]; first | rw [if_pos (by omega)] | rw [if_neg (by omega)]))) (lsub_s (by first | rfl | (first | (exfalso; omega) | (rw [sWorthN_s T h0]; first | rw [if_pos (by omega)] | rw [if_neg (by omega)]))) (lsub_s (by first | rfl | (first | (exfalso; omega) | (rw [sWorthN_s T h0]; first | rw [if_pos (by omega)] | rw [if_neg (by omega)]))) lsub_0)))) (by rfl)
            · refine r_iconst (pc := 137) C dX9_count_137 ?_
              refine r_goto (pc := 138) (tgt := 146) C dX9_count_138 (by decide) ?_
              refine r_iadd (pc := 146) C dX9_count_146 ?_
              refine r_istore_n (pc := 147) C 2 dX9_count_147 rfl (Nat.le_of_ble_eq_true rfl) ?_
              refine r_iinc (pc := 148) C dX9_count_148 rfl ?_
              refine r_goto (pc := 151) (tgt := 118) C dX9_count_151 (by decide) ?_
              refine Wc.to (ih (i + 1) (by omega) (by omega) (by omega) ) rfl (lsub_s (by first | rfl | (first | (exfalso; omega) | (rw [sWorthN_s T h0]; first | rw [if_pos (by omega)] | rw [if_neg (by omega)]))) (lsub_s (by first | rfl | (first | (exfalso; omega) | (rw [sWorthN_s T h0]; first | rw [if_pos (by omega)] | rw [if_neg (by omega)]))) (lsub_s (by first | rfl | (first | (exfalso; omega) | (rw [sWorthN_s T h0]; first | rw [if_pos (by omega)] | rw [if_neg (by omega)]))) (lsub_s (by first | rfl | (first | (exfalso; omega) | (rw [sWorthN_s T h0]; first | rw [if_pos (by omega)] | rw [if_neg (by omega)]))) lsub_0)))) (by rfl)
      refine Wc.to (L118 ((T 0 1 - (0)).toNat + 1) (0) (by omega) (by omega) (by omega) ) rfl (lsub_s rfl (lsub_s rfl (lsub_s rfl (lsub_s rfl lsub_0)))) (by rfl)
    by_cases s25_7 : w = 7
    · refine r_tblIn (pc := 25) (tgt := 156) C 7 dX9_count_25 s25_7 (by decide) (by decide) (by decide) rfl (by decide) ?_
      refine r_aload_n (pc := 156) C 0 dX9_count_156 rfl rfl ?_
      refine r_get (pc := 157) C 0 0 11 dX9_count_157 in_X9 rfl rfl (ci := 9) rfl (by decide) tw_752 rfl rfl ?_
      exact r_iret (pc := 160) C hQ dX9_count_160 rfl (jst_ri (by unfold v_count; (repeat (first | rw [if_pos (by omega)] | rw [if_neg (by omega)])); (try first | rfl | omega)) rfl)
    by_cases s25_8 : w = 8
    · refine r_tblIn (pc := 25) (tgt := 161) C 8 dX9_count_25 s25_8 (by decide) (by decide) (by decide) rfl (by decide) ?_
      refine r_aload_n (pc := 161) C 0 dX9_count_161 rfl rfl ?_
      refine r_get (pc := 162) C 0 0 8 dX9_count_162 in_X9 rfl rfl (ci := 9) rfl (by decide) tw_749 rfl rfl ?_
      exact r_iret (pc := 165) C hQ dX9_count_165 rfl (jst_ri (by unfold v_count; (repeat (first | rw [if_pos (by omega)] | rw [if_neg (by omega)])); (try first | rfl | omega)) rfl)
    refine r_tblOut (pc := 25) (tgt := 166) C dX9_count_25 gw (by omega) (by decide) ?_
    refine r_bipush (pc := 166) C dX9_count_166 (by decide) ?_
    exact r_iret (pc := 168) C hQ dX9_count_168 rfl (jst_ri (by unfold v_count; (repeat (first | rw [if_pos (by omega)] | rw [if_neg (by omega)])); (try first | rfl | omega)) rfl)
  · refine r_iload_n (pc := 6) C 1 dX9_count_6 rfl rfl ?_
    refine r_bipush (pc := 7) C dX9_count_7 (by decide) ?_
    refine r_icmp_ge (pc := 9) (tgt := 22) C dX9_count_9 (by decide) (by first | omega | exact zand_rng _ _ | exact zor_rng _ _ | exact zxor_rng _ _ | exact BT.r (IT.b (by assumption)) _ _) (by first | omega | exact zand_rng _ _ | exact zor_rng _ _ | exact zxor_rng _ _ | exact BT.r (IT.b (by assumption)) _ _) (fun c9 => ?_) (fun c9 => ?_)
    · refine r_iconst (pc := 22) C dX9_count_22 ?_
      refine r_istore_n (pc := 23) C 2 dX9_count_23 rfl (Nat.le_of_ble_eq_true rfl) ?_
      refine r_iload_n (pc := 24) C 1 dX9_count_24 rfl rfl ?_
      by_cases s25_0 : w = 0
      · refine r_tblIn (pc := 25) (tgt := 76) C 0 dX9_count_25 s25_0 (by decide) (by decide) (by decide) rfl (by decide) ?_
        refine r_aload_n (pc := 76) C 0 dX9_count_76 rfl rfl ?_
        refine r_get (pc := 77) C 0 0 1 dX9_count_77 in_X9 rfl rfl (ci := 9) rfl (by decide) tw_742 rfl rfl ?_
        refine r_iconst (pc := 80) C dX9_count_80 ?_
        refine r_ialoadE (pc := 81) C 2 0 dX9_count_81 rfl rfl (by decide) (by omega) (flat_0 _ (by decide)) ?_
        exact r_iret (pc := 82) C hQ dX9_count_82 rfl (jst_ri (by unfold v_count; (repeat (first | rw [if_pos (by omega)] | rw [if_neg (by omega)])); (try first | rfl | omega)) rfl)
      by_cases s25_1 : w = 1
      · refine r_tblIn (pc := 25) (tgt := 83) C 1 dX9_count_25 s25_1 (by decide) (by decide) (by decide) rfl (by decide) ?_
        refine r_aload_n (pc := 83) C 0 dX9_count_83 rfl rfl ?_
        refine r_get (pc := 84) C 0 0 1 dX9_count_84 in_X9 rfl rfl (ci := 9) rfl (by decide) tw_742 rfl rfl ?_
        refine r_iconst (pc := 87) C dX9_count_87 ?_
        refine r_ialoadE (pc := 88) C 2 0 dX9_count_88 rfl rfl (by decide) (by omega) (flat_0 _ (by decide)) ?_
        exact r_iret (pc := 89) C hQ dX9_count_89 rfl (jst_ri (by unfold v_count; (repeat (first | rw [if_pos (by omega)] | rw [if_neg (by omega)])); (try first | rfl | omega)) rfl)
      by_cases s25_2 : w = 2
      · refine r_tblIn (pc := 25) (tgt := 90) C 2 dX9_count_25 s25_2 (by decide) (by decide) (by decide) rfl (by decide) ?_
        refine r_aload_n (pc := 90) C 0 dX9_count_90 rfl rfl ?_
        refine r_get (pc := 91) C 0 0 1 dX9_count_91 in_X9 rfl rfl (ci := 9) rfl (by decide) tw_742 rfl rfl ?_
        refine r_iconst (pc := 94) C dX9_count_94 ?_
        refine r_ialoadE (pc := 95) C 2 0 dX9_count_95 rfl rfl (by decide) (by omega) (flat_0 _ (by decide)) ?_
        exact r_iret (pc := 96) C hQ dX9_count_96 rfl (jst_ri (by unfold v_count; (repeat (first | rw [if_pos (by omega)] | rw [if_neg (by omega)])); (try first | rfl | omega)) rfl)
      by_cases s25_3 : w = 3
      · refine r_tblIn (pc := 25) (tgt := 97) C 3 dX9_count_25 s25_3 (by decide) (by decide) (by decide) rfl (by decide) ?_
        refine r_aload_n (pc := 97) C 0 dX9_count_97 rfl rfl ?_
        refine r_callV (pc := 98) (is := [0, 1, 2, 3, 4, 5, 6, 7, 8]) C YX9_lostMany dX9_count_98 tw_913 (c_X9_lostMany l G _ _ _ (by first | assumption | omega | exact zand_rng _ _ | exact zor_rng _ _ | exact zxor_rng _ _ | exact BT.r (IT.b (by assumption)) _ _)) 0 0 rfl rfl (ci := 9) rfl rfl rfl (by decide) rfl rfl (Nat.le_of_ble_eq_true rfl) ⟨rfl, rfl, by decide, by decide⟩ (jst_i (R_uall ..) ?_)
        exact r_iret (pc := 101) C hQ dX9_count_101 rfl (jst_ri (by unfold v_count; (repeat (first | rw [if_pos (by omega)] | rw [if_neg (by omega)])); (try first | rfl | omega)) rfl)
      by_cases s25_4 : w = 4
      · refine r_tblIn (pc := 25) (tgt := 102) C 4 dX9_count_25 s25_4 (by decide) (by decide) (by decide) rfl (by decide) ?_
        refine r_aload_n (pc := 102) C 0 dX9_count_102 rfl rfl ?_
        refine r_get (pc := 103) C 0 0 1 dX9_count_103 in_X9 rfl rfl (ci := 9) rfl (by decide) tw_742 rfl rfl ?_
        refine r_iconst (pc := 106) C dX9_count_106 ?_
        refine r_ialoadE (pc := 107) C 2 0 dX9_count_107 rfl rfl (by decide) (by omega) (flat_0 _ (by decide)) ?_
        exact r_iret (pc := 108) C hQ dX9_count_108 rfl (jst_ri (by unfold v_count; (repeat (first | rw [if_pos (by omega)] | rw [if_neg (by omega)])); (try first | rfl | omega)) rfl)
      by_cases s25_5 : w = 5
      · refine r_tblIn (pc := 25) (tgt := 109) C 5 dX9_count_25 s25_5 (by decide) (by decide) (by decide) rfl (by decide) ?_
        refine r_aload_n (pc := 109) C 0 dX9_count_109 rfl rfl ?_
        refine r_get (pc := 110) C 0 0 1 dX9_count_110 in_X9 rfl rfl (ci := 9) rfl (by decide) tw_742 rfl rfl ?_
        refine r_iconst (pc := 113) C dX9_count_113 ?_
        refine r_ialoadE (pc := 114) C 2 0 dX9_count_114 rfl rfl (by decide) (by omega) (flat_0 _ (by decide)) ?_
        exact r_iret (pc := 115) C hQ dX9_count_115 rfl (jst_ri (by unfold v_count; (repeat (first | rw [if_pos (by omega)] | rw [if_neg (by omega)])); (try first | rfl | omega)) rfl)
      by_cases s25_6 : w = 6
      · refine r_tblIn (pc := 25) (tgt := 116) C 6 dX9_count_25 s25_6 (by decide) (by decide) (by decide) rfl (by decide) ?_
        refine r_iconst (pc := 116) C dX9_count_116 ?_
        refine r_istore_n (pc := 117) C 3 dX9_count_117 rfl (Nat.le_of_ble_eq_true rfl) ?_
        have L118 : ∀ (n : Nat) (i : Int), 0 ≤ i → i ≤ T 0 1 → T 0 1 < i + n → Wc K G 118 [some (.ref (b 0)), some (.int (iI w)), some (.int (iI (sWorthN T i))), some (.int (iI i))] [] (wR G b R T) := by
          intro n
          induction n with
          | zero =>
            intro i h0 h1 hn; omega
          | succ n ih =>
            intro i h0 h1 hn 
            refine r_iload_n (pc := 118) C 3 dX9_count_118 rfl rfl ?_
            refine r_aload_n (pc := 119) C 0 dX9_count_119 rfl rfl ?_
            refine r_get (pc := 120) C 0 0 1 dX9_count_120 in_X9 rfl rfl (ci := 9) rfl (by decide) tw_742 rfl rfl ?_
            refine r_iconst (pc := 123) C dX9_count_123 ?_
            refine r_ialoadE (pc := 124) C 2 0 dX9_count_124 rfl rfl (by decide) (by omega) (flat_0 _ (by decide)) ?_
            refine r_icmp_ge (pc := 125) (tgt := 154) C dX9_count_125 (by decide) (by first | omega | exact zand_rng _ _ | exact zor_rng _ _ | exact zxor_rng _ _ | exact BT.r (IT.b (by assumption)) _ _) (by first | omega | exact zand_rng _ _ | exact zor_rng _ _ | exact zxor_rng _ _ | exact BT.r (IT.b (by assumption)) _ _) (fun c125 => ?_) (fun c125 => ?_)
            · refine r_iload_n (pc := 154) C 2 dX9_count_154 rfl rfl ?_
              exact r_iret (pc := 155) C hQ dX9_count_155 rfl (jst_ri (by first | (exfalso; omega) | (unfold v_count; (repeat (first | rw [if_pos (by omega)] | rw [if_neg (by omega)])); rw [show T 0 1 = i by omega])) rfl)
            · refine r_iload_n (pc := 128) C 2 dX9_count_128 rfl rfl ?_
              refine r_aload_n (pc := 129) C 0 dX9_count_129 rfl rfl ?_
              refine r_iload_n (pc := 130) C 3 dX9_count_130 rfl rfl ?_
              refine r_callV (pc := 131) (is := [0, 1, 2, 3, 4, 5, 6, 7, 8]) C YX9_isLost dX9_count_131 tw_854 (c_X9_isLost l G _ _ _ _ (by first | assumption | omega | exact zand_rng _ _ | exact zor_rng _ _ | exact zxor_rng _ _ | exact BT.r (IT.b (by assumption)) _ _) (by first | assumption | omega | exact zand_rng _ _ | exact zor_rng _ _ | exact zxor_rng _ _ | exact BT.r (IT.b (by assumption)) _ _)) 0 0 rfl rfl (ci := 9) rfl rfl rfl (by decide) rfl rfl (Nat.le_of_ble_eq_true rfl) ⟨rfl, rfl, by decide, by decide⟩ (jst_i (R_uall ..) ?_)
              refine r_ifb_eq (pc := 134) (tgt := 141) C dX9_count_134 (by decide) (fun c134 => ?_) (fun c134 => ?_)
              · refine r_aload_n (pc := 141) C 0 dX9_count_141 rfl rfl ?_
                refine r_iload_n (pc := 142) C 3 dX9_count_142 rfl rfl ?_
                refine r_callV (pc := 143) (is := [0, 1, 2, 3, 4, 5, 6, 7, 8]) C YX9_valueOf dX9_count_143 tw_846 (c_X9_valueOf l G _ _ _ _ (by first | assumption | omega | exact zand_rng _ _ | exact zor_rng _ _ | exact zxor_rng _ _ | exact BT.r (IT.b (by assumption)) _ _) (by first | assumption | omega | exact zand_rng _ _ | exact zor_rng _ _ | exact zxor_rng _ _ | exact BT.r (IT.b (by assumption)) _ _)) 0 0 rfl rfl (ci := 9) rfl rfl rfl (by decide) rfl rfl (Nat.le_of_ble_eq_true rfl) ⟨rfl, rfl, by decide, by decide⟩ (jst_i (R_uall ..) ?_)
                refine r_iadd (pc := 146) C dX9_count_146 ?_
                refine r_istore_n (pc := 147) C 2 dX9_count_147 rfl (Nat.le_of_ble_eq_true rfl) ?_
                refine r_iinc (pc := 148) C dX9_count_148 rfl ?_
                refine r_goto (pc := 151) (tgt := 118) C dX9_count_151 (by decide) ?_
                refine Wc.to (ih (i + 1) (by omega) (by omega) (by omega) ) rfl (lsub_s (by first | rfl | (first | (exfalso; omega) | (rw [sWorthN_s T h0]; first | rw [if_pos (by omega)] | rw [if_neg (by omega)]))) (lsub_s (by first | rfl | (first | (exfalso; omega) | (rw [sWorthN_s T h0]; first | rw [if_pos (by omega)] | rw [if_neg (by omega)]))) (lsub_s (by first | rfl | (first | (exfalso; omega) | (rw [sWorthN_s T h0]; first | rw [if_pos (by omega)] | rw [if_neg (by omega)]))) (lsub_s (by first | rfl | (first | (exfalso; omega) | (rw [sWorthN_s T h0]; first | rw [if_pos (by omega)] | rw [if_neg (by omega)]))) lsub_0)))) (by rfl)
              · refine r_iconst (pc := 137) C dX9_count_137 ?_
                refine r_goto (pc := 138) (tgt := 146) C dX9_count_138 (by decide) ?_
                refine r_iadd (pc := 146) C dX9_count_146 ?_
                refine r_istore_n (pc := 147) C 2 dX9_count_147 rfl (Nat.le_of_ble_eq_true rfl) ?_
                refine r_iinc (pc := 148) C dX9_count_148 rfl ?_
                refine r_goto (pc := 151) (tgt := 118) C dX9_count_151 (by decide) ?_
                refine Wc.to (ih (i + 1) (by omega) (by omega) (by omega) ) rfl (lsub_s (by first | rfl | (first | (exfalso; omega) | (rw [sWorthN_s T h0]; first | rw [if_pos (by omega)] | rw [if_neg (by omega)]))) (lsub_s (by first | rfl | (first | (exfalso; omega) | (rw [sWorthN_s T h0]; first | rw [if_pos (by omega)] | rw [if_neg (by omega)]))) (lsub_s (by first | rfl | (first | (exfalso; omega) | (rw [sWorthN_s T h0]; first | rw [if_pos (by omega)] | rw [if_neg (by omega)]))) (lsub_s (by first | rfl | (first | (exfalso; omega) | (rw [sWorthN_s T h0]; first | rw [if_pos (by omega)] | rw [if_neg (by omega)]))) lsub_0)))) (by rfl)
        refine Wc.to (L118 ((T 0 1 - (0)).toNat + 1) (0) (by omega) (by omega) (by omega) ) rfl (lsub_s rfl (lsub_s rfl (lsub_s rfl (lsub_s rfl lsub_0)))) (by rfl)
      by_cases s25_7 : w = 7
      · refine r_tblIn (pc := 25) (tgt := 156) C 7 dX9_count_25 s25_7 (by decide) (by decide) (by decide) rfl (by decide) ?_
        refine r_aload_n (pc := 156) C 0 dX9_count_156 rfl rfl ?_
        refine r_get (pc := 157) C 0 0 11 dX9_count_157 in_X9 rfl rfl (ci := 9) rfl (by decide) tw_752 rfl rfl ?_
        exact r_iret (pc := 160) C hQ dX9_count_160 rfl (jst_ri (by unfold v_count; (repeat (first | rw [if_pos (by omega)] | rw [if_neg (by omega)])); (try first | rfl | omega)) rfl)
      by_cases s25_8 : w = 8
      · refine r_tblIn (pc := 25) (tgt := 161) C 8 dX9_count_25 s25_8 (by decide) (by decide) (by decide) rfl (by decide) ?_
        refine r_aload_n (pc := 161) C 0 dX9_count_161 rfl rfl ?_
        refine r_get (pc := 162) C 0 0 8 dX9_count_162 in_X9 rfl rfl (ci := 9) rfl (by decide) tw_749 rfl rfl ?_
        exact r_iret (pc := 165) C hQ dX9_count_165 rfl (jst_ri (by unfold v_count; (repeat (first | rw [if_pos (by omega)] | rw [if_neg (by omega)])); (try first | rfl | omega)) rfl)
      refine r_tblOut (pc := 25) (tgt := 166) C dX9_count_25 gw (by omega) (by decide) ?_
      refine r_bipush (pc := 166) C dX9_count_166 (by decide) ?_
      exact r_iret (pc := 168) C hQ dX9_count_168 rfl (jst_ri (by unfold v_count; (repeat (first | rw [if_pos (by omega)] | rw [if_neg (by omega)])); (try first | rfl | omega)) rfl)
    · refine r_aload_n (pc := 12) C 0 dX9_count_12 rfl rfl ?_
      refine r_get (pc := 13) C 0 0 0 dX9_count_13 in_X9 rfl rfl (ci := 9) rfl (by decide) tw_741 rfl rfl ?_
      refine r_iload_n (pc := 16) C 1 dX9_count_16 rfl rfl ?_
      refine r_bipush (pc := 17) C dX9_count_17 (by decide) ?_
      refine r_isub (pc := 19) C dX9_count_19 ?_
      refine r_iaload (pc := 20) C 1 0 dX9_count_20 rfl rfl (by decide) (by omega) ?_
      exact r_iret (pc := 21) C hQ dX9_count_21 rfl (jst_ri (by unfold v_count; (repeat (first | rw [if_pos (by omega)] | rw [if_neg (by omega)])); (try first | rfl | omega)) rfl)

