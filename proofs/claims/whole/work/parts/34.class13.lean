set_option maxRecDepth 100000 in
set_option maxHeartbeats 4000000 in
theorem c_X8_cheapest (l : Launch) (G : GT) (a : Nat → Nat) (X N M P S : Tn) (f t m k : Int) (hI : IT N) (hX : IX X S) (hk9 : N 0 4 ≤ 999) (gf : -2147483648 ≤ f ∧ f < 2147483648) (gt : -2147483648 ≤ t ∧ t < 2147483648) (gm : -2147483648 ≤ m ∧ m < 2147483648) (gk : -2147483648 ≤ k ∧ k < 2147483648) : Cn l yX8_cheapest cX8_cheapest 6 (Option.some .int) ({ frames := 7, cells := 0, slots := 0, locals := 165 }) G [.ref (a 0), .int (iI f), .int (iI t), .int (iI m), .int (iI k)] (wC G a X N M P S) (aE G a (q_cheap N f t m k) ((sCheap N f t m k (zp2 (N 0 1))).1) (X) (xrf X (q_cheap N f t m k)) (N) N P S) := by
  refine Cn_in RX8 [some (.ref (a 0)), some (.int (iI f)), some (.int (iI t)), some (.int (iI m)), some (.int (iI k)), none] (by decide +kernel) rfl rfl rfl (Nat.le_of_ble_eq_true rfl) (fun K C hQ => ?_)
  obtain ⟨x1, s1, x3, s6, x8⟩ := hX
  have hBB := hI.b
  have hLL := hI.L
  have hDD := hI.D
  have hkk := hI.k
  have hzp := zp2_r (L := N 0 1) (by omega)
  have hmr := (sMask_r (fun d => N 6 d = f) hDD.1 hDD.2).1
  refine r_aload_n (pc := 0) C 0 dX8_cheapest_0 rfl rfl ?_
  refine r_get (pc := 1) C 0 0 0 dX8_cheapest_1 in_X8 rfl rfl (ci := 8) rfl (by decide) tw_143 rfl rfl ?_
  refine r_iload_n (pc := 4) C 1 dX8_cheapest_4 rfl rfl ?_
  refine r_callV (pc := 5) (is := [1]) C YX6_hasLoft dX8_cheapest_5 tw_399 (c_X6_hasLoft l G _ _ _ (by first | assumption | omega | exact zand_rng _ _ | exact zor_rng _ _ | exact zxor_rng _ _ | exact BT.r (IT.b (by assumption)) _ _) (by first | assumption | omega | exact zand_rng _ _ | exact zor_rng _ _ | exact zxor_rng _ _ | exact BT.r (IT.b (by assumption)) _ _)) 1 0 rfl rfl (ci := 6) rfl rfl rfl (by decide) rfl rfl (Nat.le_of_ble_eq_true rfl) ⟨rfl, rfl, by decide, by decide⟩ (jst_i (C_u1 ..) ?_)
  refine r_ifb_eq (pc := 8) (tgt := 27) C dX8_cheapest_8 (by decide) (fun c8 => ?_) (fun c8 => ?_)
  · refine r_aload_n (pc := 27) C 0 dX8_cheapest_27 rfl rfl ?_
    refine r_iconst (pc := 28) C dX8_cheapest_28 ?_
    refine r_callV (pc := 29) (is := [0, 1, 2, 3, 4]) C YX8_refuse dX8_cheapest_29 tw_185 (c_X8_refuse l G _ _ _ _ _ _ _ (by first | assumption | omega | exact zand_rng _ _ | exact zor_rng _ _ | exact zxor_rng _ _ | exact BT.r (IT.b (by assumption)) _ _)) 0 0 rfl rfl (ci := 8) rfl rfl rfl (by decide) rfl rfl (Nat.le_of_ble_eq_true rfl) ⟨rfl, rfl, by decide, by decide⟩ (jst_i (C_uall ..) ?_)
    exact r_iret (pc := 32) C hQ dX8_cheapest_32 rfl (fin_noE (by unfold q_cheap; (repeat (first | rw [if_pos (by omega)] | rw [if_neg (by omega)])); (try first | rfl | assumption | omega)) (by omega) rfl)
  · refine r_aload_n (pc := 11) C 0 dX8_cheapest_11 rfl rfl ?_
    refine r_get (pc := 12) C 0 0 0 dX8_cheapest_12 in_X8 rfl rfl (ci := 8) rfl (by decide) tw_143 rfl rfl ?_
    refine r_iload_n (pc := 15) C 2 dX8_cheapest_15 rfl rfl ?_
    refine r_callV (pc := 16) (is := [1]) C YX6_hasLoft dX8_cheapest_16 tw_399 (c_X6_hasLoft l G _ _ _ (by first | assumption | omega | exact zand_rng _ _ | exact zor_rng _ _ | exact zxor_rng _ _ | exact BT.r (IT.b (by assumption)) _ _) (by first | assumption | omega | exact zand_rng _ _ | exact zor_rng _ _ | exact zxor_rng _ _ | exact BT.r (IT.b (by assumption)) _ _)) 1 0 rfl rfl (ci := 6) rfl rfl rfl (by decide) rfl rfl (Nat.le_of_ble_eq_true rfl) ⟨rfl, rfl, by decide, by decide⟩ (jst_i (C_u1 ..) ?_)
    refine r_ifb_eq (pc := 19) (tgt := 27) C dX8_cheapest_19 (by decide) (fun c19 => ?_) (fun c19 => ?_)
    · refine r_aload_n (pc := 27) C 0 dX8_cheapest_27 rfl rfl ?_
      refine r_iconst (pc := 28) C dX8_cheapest_28 ?_
      refine r_callV (pc := 29) (is := [0, 1, 2, 3, 4]) C YX8_refuse dX8_cheapest_29 tw_185 (c_X8_refuse l G _ _ _ _ _ _ _ (by first | assumption | omega | exact zand_rng _ _ | exact zor_rng _ _ | exact zxor_rng _ _ | exact BT.r (IT.b (by assumption)) _ _)) 0 0 rfl rfl (ci := 8) rfl rfl rfl (by decide) rfl rfl (Nat.le_of_ble_eq_true rfl) ⟨rfl, rfl, by decide, by decide⟩ (jst_i (C_uall ..) ?_)
      exact r_iret (pc := 32) C hQ dX8_cheapest_32 rfl (fin_noE (by unfold q_cheap; (repeat (first | rw [if_pos (by omega)] | rw [if_neg (by omega)])); (try first | rfl | assumption | omega)) (by omega) rfl)
    · refine r_iload_n (pc := 22) C 1 dX8_cheapest_22 rfl rfl ?_
      refine r_iload_n (pc := 23) C 2 dX8_cheapest_23 rfl rfl ?_
      refine r_icmp_ne (pc := 24) (tgt := 33) C dX8_cheapest_24 (by decide) (by first | omega | exact zand_rng _ _ | exact zor_rng _ _ | exact zxor_rng _ _ | exact BT.r (IT.b (by assumption)) _ _) (by first | omega | exact zand_rng _ _ | exact zor_rng _ _ | exact zxor_rng _ _ | exact BT.r (IT.b (by assumption)) _ _) (fun c24 => ?_) (fun c24 => ?_)
      · refine r_iload_n (pc := 33) C 3 dX8_cheapest_33 rfl rfl ?_
        refine r_if_lt (pc := 34) (tgt := 42) C dX8_cheapest_34 (by decide) (by first | omega | exact zand_rng _ _ | exact zor_rng _ _ | exact zxor_rng _ _ | exact BT.r (IT.b (by assumption)) _ _) (fun c34 => ?_) (fun c34 => ?_)
        · refine r_aload_n (pc := 42) C 0 dX8_cheapest_42 rfl rfl ?_
          refine r_bipush (pc := 43) C dX8_cheapest_43 (by decide) ?_
          refine r_callV (pc := 45) (is := [0, 1, 2, 3, 4]) C YX8_refuse dX8_cheapest_45 tw_185 (c_X8_refuse l G _ _ _ _ _ _ _ (by first | assumption | omega | exact zand_rng _ _ | exact zor_rng _ _ | exact zxor_rng _ _ | exact BT.r (IT.b (by assumption)) _ _)) 0 0 rfl rfl (ci := 8) rfl rfl rfl (by decide) rfl rfl (Nat.le_of_ble_eq_true rfl) ⟨rfl, rfl, by decide, by decide⟩ (jst_i (C_uall ..) ?_)
          exact r_iret (pc := 48) C hQ dX8_cheapest_48 rfl (fin_noE (by unfold q_cheap; (repeat (first | rw [if_pos (by omega)] | rw [if_neg (by omega)])); (try first | rfl | assumption | omega)) (by omega) rfl)
        · refine r_iload (pc := 37) C dX8_cheapest_37 rfl ?_
          refine r_if_ge (pc := 39) (tgt := 49) C dX8_cheapest_39 (by decide) (by first | omega | exact zand_rng _ _ | exact zor_rng _ _ | exact zxor_rng _ _ | exact BT.r (IT.b (by assumption)) _ _) (fun c39 => ?_) (fun c39 => ?_)
          · refine r_iload_n (pc := 49) C 3 dX8_cheapest_49 rfl rfl ?_
            refine r_sipush (pc := 50) C dX8_cheapest_50 (by decide) ?_
            refine r_icmp_gt (pc := 53) (tgt := 63) C dX8_cheapest_53 (by decide) (by first | omega | exact zand_rng _ _ | exact zor_rng _ _ | exact zxor_rng _ _ | exact BT.r (IT.b (by assumption)) _ _) (by first | omega | exact zand_rng _ _ | exact zor_rng _ _ | exact zxor_rng _ _ | exact BT.r (IT.b (by assumption)) _ _) (fun c53 => ?_) (fun c53 => ?_)
            · refine r_aload_n (pc := 63) C 0 dX8_cheapest_63 rfl rfl ?_
              refine r_bipush (pc := 64) C dX8_cheapest_64 (by decide) ?_
              refine r_callV (pc := 66) (is := [0, 1, 2, 3, 4]) C YX8_refuse dX8_cheapest_66 tw_185 (c_X8_refuse l G _ _ _ _ _ _ _ (by first | assumption | omega | exact zand_rng _ _ | exact zor_rng _ _ | exact zxor_rng _ _ | exact BT.r (IT.b (by assumption)) _ _)) 0 0 rfl rfl (ci := 8) rfl rfl rfl (by decide) rfl rfl (Nat.le_of_ble_eq_true rfl) ⟨rfl, rfl, by decide, by decide⟩ (jst_i (C_uall ..) ?_)
              exact r_iret (pc := 69) C hQ dX8_cheapest_69 rfl (fin_noE (by unfold q_cheap; (repeat (first | rw [if_pos (by omega)] | rw [if_neg (by omega)])); (try first | rfl | assumption | omega)) (by omega) rfl)
            · refine r_iload (pc := 56) C dX8_cheapest_56 rfl ?_
              refine r_bipush (pc := 58) C dX8_cheapest_58 (by decide) ?_
              refine r_icmp_le (pc := 60) (tgt := 70) C dX8_cheapest_60 (by decide) (by first | omega | exact zand_rng _ _ | exact zor_rng _ _ | exact zxor_rng _ _ | exact BT.r (IT.b (by assumption)) _ _) (by first | omega | exact zand_rng _ _ | exact zor_rng _ _ | exact zxor_rng _ _ | exact BT.r (IT.b (by assumption)) _ _) (fun c60 => ?_) (fun c60 => ?_)
              · refine r_aload_n (pc := 70) C 0 dX8_cheapest_70 rfl rfl ?_
                refine r_get (pc := 71) C 0 0 0 dX8_cheapest_71 in_X8 rfl rfl (ci := 8) rfl (by decide) tw_143 rfl rfl ?_
                refine r_iload_n (pc := 74) C 1 dX8_cheapest_74 rfl rfl ?_
                refine r_callV (pc := 75) (is := [1]) C YX6_dovesIn dX8_cheapest_75 tw_628 (c_X6_dovesIn l G _ _ _ (by first | assumption | omega | exact zand_rng _ _ | exact zor_rng _ _ | exact zxor_rng _ _ | exact BT.r (IT.b (by assumption)) _ _) (by first | assumption | omega | exact zand_rng _ _ | exact zor_rng _ _ | exact zxor_rng _ _ | exact BT.r (IT.b (by assumption)) _ _)) 1 0 rfl rfl (ci := 6) rfl rfl rfl (by decide) rfl rfl (Nat.le_of_ble_eq_true rfl) ⟨rfl, rfl, by decide, by decide⟩ (jst_i (C_u1 ..) ?_)
                refine r_istore (pc := 78) C dX8_cheapest_78 (Nat.le_of_ble_eq_true rfl) ?_
                refine r_aload_n (pc := 80) C 0 dX8_cheapest_80 rfl rfl ?_
                refine r_iload (pc := 81) C dX8_cheapest_81 rfl ?_
                refine r_iload_n (pc := 83) C 2 dX8_cheapest_83 rfl rfl ?_
                refine r_iload (pc := 84) C dX8_cheapest_84 rfl ?_
                refine r_callV (pc := 86) (is := [0, 1, 2, 3, 4]) C YX8_gainByCarrying dX8_cheapest_86 tw_615 (c_X8_gainByCarrying l G _ _ _ _ _ _ _ _ _ (by first | assumption | omega | exact zand_rng _ _ | exact zor_rng _ _ | exact zxor_rng _ _ | exact BT.r (IT.b (by assumption)) _ _) (by first | assumption | omega | exact zand_rng _ _ | exact zor_rng _ _ | exact zxor_rng _ _ | exact BT.r (IT.b (by assumption)) _ _) (by first | assumption | omega | exact zand_rng _ _ | exact zor_rng _ _ | exact zxor_rng _ _ | exact BT.r (IT.b (by assumption)) _ _) (by first | assumption | omega | exact zand_rng _ _ | exact zor_rng _ _ | exact zxor_rng _ _ | exact BT.r (IT.b (by assumption)) _ _) (by first | assumption | omega | exact zand_rng _ _ | exact zor_rng _ _ | exact zxor_rng _ _ | exact BT.r (IT.b (by assumption)) _ _)) 0 0 rfl rfl (ci := 8) rfl rfl rfl (by decide) rfl rfl (Nat.le_of_ble_eq_true rfl) ⟨rfl, rfl, by decide, by decide⟩ ?_
                refine fun o g hq0 _ => ?_
                obtain ⟨rfl, F1, rfl, hF1⟩ := hq0
                show Wc K G _ _ [] (wC G a (up1 X 3 F1) N (sStayU N (sMask (fun d => N 6 d = f) (N 0 1)) t k) P S)
                refine r_aload_n (pc := 89) C 0 dX8_cheapest_89 rfl rfl ?_
                refine r_iload (pc := 90) C dX8_cheapest_90 rfl ?_
                refine r_iload_n (pc := 92) C 3 dX8_cheapest_92 rfl rfl ?_
                refine r_callV (pc := 93) (is := [0, 1, 2, 3, 4]) C YX8_cheapestSet dX8_cheapest_93 tw_629 (c_X8_cheapestSet l G _ (up1 X 3 F1) N (sStayU N (sMask (fun d => N 6 d = f) (N 0 1)) t k) P S f t m k hI hk9 (by omega) (by omega) (by omega) (fun s p q r => v_stay_in hI ⟨p, q⟩ (by omega) (by omega) (by omega) (fun d w x y => (sMask_b (fun d => N 6 d = f) w x hDD.2).mpr (r d w x y)) hF1)) 0 0 rfl rfl (ci := 8) rfl rfl rfl (by decide) rfl rfl (Nat.le_of_ble_eq_true rfl) ⟨rfl, rfl, by decide, by decide⟩ (jst_i (C_uall ..) ?_)
                exact r_iret (pc := 96) C hQ dX8_cheapest_96 rfl (fin_okE (by unfold q_cheap; (repeat (first | rw [if_pos (by omega)] | rw [if_neg (by omega)])); (try first | rfl | assumption | omega)) (by rfl) (by exact congrArg (fun Z => wC G a Z N (sStayU N (sMask (fun d => N 6 d = f) (N 0 1)) t k) P S) (up1_f X F1)))
              · refine r_aload_n (pc := 63) C 0 dX8_cheapest_63 rfl rfl ?_
                refine r_bipush (pc := 64) C dX8_cheapest_64 (by decide) ?_
                refine r_callV (pc := 66) (is := [0, 1, 2, 3, 4]) C YX8_refuse dX8_cheapest_66 tw_185 (c_X8_refuse l G _ _ _ _ _ _ _ (by first | assumption | omega | exact zand_rng _ _ | exact zor_rng _ _ | exact zxor_rng _ _ | exact BT.r (IT.b (by assumption)) _ _)) 0 0 rfl rfl (ci := 8) rfl rfl rfl (by decide) rfl rfl (Nat.le_of_ble_eq_true rfl) ⟨rfl, rfl, by decide, by decide⟩ (jst_i (C_uall ..) ?_)
                exact r_iret (pc := 69) C hQ dX8_cheapest_69 rfl (fin_noE (by unfold q_cheap; (repeat (first | rw [if_pos (by omega)] | rw [if_neg (by omega)])); (try first | rfl | assumption | omega)) (by omega) rfl)
          · refine r_aload_n (pc := 42) C 0 dX8_cheapest_42 rfl rfl ?_
            refine r_bipush (pc := 43) C dX8_cheapest_43 (by decide) ?_
            refine r_callV (pc := 45) (is := [0, 1, 2, 3, 4]) C YX8_refuse dX8_cheapest_45 tw_185 (c_X8_refuse l G _ _ _ _ _ _ _ (by first | assumption | omega | exact zand_rng _ _ | exact zor_rng _ _ | exact zxor_rng _ _ | exact BT.r (IT.b (by assumption)) _ _)) 0 0 rfl rfl (ci := 8) rfl rfl rfl (by decide) rfl rfl (Nat.le_of_ble_eq_true rfl) ⟨rfl, rfl, by decide, by decide⟩ (jst_i (C_uall ..) ?_)
            exact r_iret (pc := 48) C hQ dX8_cheapest_48 rfl (fin_noE (by unfold q_cheap; (repeat (first | rw [if_pos (by omega)] | rw [if_neg (by omega)])); (try first | rfl | assumption | omega)) (by omega) rfl)
      · refine r_aload_n (pc := 27) C 0 dX8_cheapest_27 rfl rfl ?_
        refine r_iconst (pc := 28) C dX8_cheapest_28 ?_
        refine r_callV (pc := 29) (is := [0, 1, 2, 3, 4]) C YX8_refuse dX8_cheapest_29 tw_185 (c_X8_refuse l G _ _ _ _ _ _ _ (by first | assumption | omega | exact zand_rng _ _ | exact zor_rng _ _ | exact zxor_rng _ _ | exact BT.r (IT.b (by assumption)) _ _)) 0 0 rfl rfl (ci := 8) rfl rfl rfl (by decide) rfl rfl (Nat.le_of_ble_eq_true rfl) ⟨rfl, rfl, by decide, by decide⟩ (jst_i (C_uall ..) ?_)
        exact r_iret (pc := 32) C hQ dX8_cheapest_32 rfl (fin_noE (by unfold q_cheap; (repeat (first | rw [if_pos (by omega)] | rw [if_neg (by omega)])); (try first | rfl | assumption | omega)) (by omega) rfl)

set_option maxRecDepth 100000 in
set_option maxHeartbeats 4000000 in
theorem c_X8_purses (l : Launch) (G : GT) (a : Nat → Nat) (X N M P S : Tn) (v : Int) (hI : IT N) (hjl : ∀ k, 0 ≤ k → k < N 0 0 → X 2 k = sComp N v k) : Cn l yX8_purses cX8_purses 3 (Option.some .int) ({ frames := 0, cells := 0, slots := 0, locals := 0 }) G [.ref (a 0)] (wC G a X N M P S) (jst (some (.int (iI (sPurses N v (N 0 0))))) (wC G a X N M P S)) := by
  refine Cn_in RX8 [some (.ref (a 0)), none, none] (by decide +kernel) rfl rfl rfl (Nat.le_of_ble_eq_true rfl) (fun K C hQ => ?_)
  have hLL := hI.L
  refine r_iconst (pc := 0) C dX8_purses_0 ?_
  refine r_istore_n (pc := 1) C 1 dX8_purses_1 rfl (Nat.le_of_ble_eq_true rfl) ?_
  refine r_iconst (pc := 2) C dX8_purses_2 ?_
  refine r_istore_n (pc := 3) C 2 dX8_purses_3 rfl (Nat.le_of_ble_eq_true rfl) ?_
  have L4 : ∀ (n : Nat) (i : Int), 0 ≤ i → i ≤ N 0 0 → N 0 0 < i + n → Wc K G 4 [some (.ref (a 0)), some (.int (iI (sPurses N v i))), some (.int (iI i))] [] (wC G a X N M P S) := by
    intro n
    induction n with
    | zero =>
      intro i h0 h1 hn; omega
    | succ n ih =>
      intro i h0 h1 hn 
      have hsc := sComp_r (T := N) (v := v) (p := i)
      refine r_iload_n (pc := 4) C 2 dX8_purses_4 rfl rfl ?_
      refine r_aload_n (pc := 5) C 0 dX8_purses_5 rfl rfl ?_
      refine r_get (pc := 6) C 0 0 0 dX8_purses_6 in_X8 rfl rfl (ci := 8) rfl (by decide) tw_143 rfl rfl ?_
      refine r_get (pc := 9) C 1 0 8 dX8_purses_9 in_X6 rfl rfl (ci := 6) rfl (by decide) tw_92 rfl rfl ?_
      refine r_icmp_ge (pc := 12) (tgt := 34) C dX8_purses_12 (by decide) (by first | omega | exact zand_rng _ _ | exact zor_rng _ _ | exact zxor_rng _ _ | exact BT.r (IT.b (by assumption)) _ _) (by first | omega | exact zand_rng _ _ | exact zor_rng _ _ | exact zxor_rng _ _ | exact BT.r (IT.b (by assumption)) _ _) (fun c12 => ?_) (fun c12 => ?_)
      · refine r_iload_n (pc := 34) C 1 dX8_purses_34 rfl rfl ?_
        exact r_iret (pc := 35) C hQ dX8_purses_35 rfl (jst_ri (by rw [show N 0 0 = i by omega]) rfl)
      · refine r_aload_n (pc := 15) C 0 dX8_purses_15 rfl rfl ?_
        refine r_get (pc := 16) C 0 0 5 dX8_purses_16 in_X8 rfl rfl (ci := 8) rfl (by decide) tw_148 rfl rfl ?_
        refine r_iload_n (pc := 19) C 2 dX8_purses_19 rfl rfl ?_
        refine r_ialoadE (pc := 20) C 0 2 dX8_purses_20 rfl rfl (by decide) (by omega) (show X 2 i = sComp N v i from hjl i h0 (by omega)) ?_
        refine r_iload_n (pc := 21) C 2 dX8_purses_21 rfl rfl ?_
        refine r_icmp_ne (pc := 22) (tgt := 28) C dX8_purses_22 (by decide) (by first | omega | exact zand_rng _ _ | exact zor_rng _ _ | exact zxor_rng _ _ | exact BT.r (IT.b (by assumption)) _ _) (by first | omega | exact zand_rng _ _ | exact zor_rng _ _ | exact zxor_rng _ _ | exact BT.r (IT.b (by assumption)) _ _) (fun c22 => ?_) (fun c22 => ?_)
        · refine r_iinc (pc := 28) C dX8_purses_28 rfl ?_
          refine r_goto (pc := 31) (tgt := 4) C dX8_purses_31 (by decide) ?_
          refine Wc.to (ih (i + 1) (by omega) (by omega) (by omega) ) rfl (lsub_s (by first | rfl | (rw [sPurses_s N v h0]; first | rw [if_pos (by omega)] | rw [if_neg (by omega), Int.add_zero])) (lsub_s (by first | rfl | (rw [sPurses_s N v h0]; first | rw [if_pos (by omega)] | rw [if_neg (by omega), Int.add_zero])) (lsub_s (by first | rfl | (rw [sPurses_s N v h0]; first | rw [if_pos (by omega)] | rw [if_neg (by omega), Int.add_zero])) lsub_0))) (by rfl)
        · refine r_iinc (pc := 25) C dX8_purses_25 rfl ?_
          refine r_iinc (pc := 28) C dX8_purses_28 rfl ?_
          refine r_goto (pc := 31) (tgt := 4) C dX8_purses_31 (by decide) ?_
          refine Wc.to (ih (i + 1) (by omega) (by omega) (by omega) ) rfl (lsub_s (by first | rfl | (rw [sPurses_s N v h0]; first | rw [if_pos (by omega)] | rw [if_neg (by omega), Int.add_zero])) (lsub_s (by first | rfl | (rw [sPurses_s N v h0]; first | rw [if_pos (by omega)] | rw [if_neg (by omega), Int.add_zero])) (lsub_s (by first | rfl | (rw [sPurses_s N v h0]; first | rw [if_pos (by omega)] | rw [if_neg (by omega), Int.add_zero])) lsub_0))) (by rfl)
  refine Wc.to (L4 ((N 0 0 - (0)).toNat + 1) (0) (by omega) (by omega) (by omega) ) rfl (lsub_s rfl (lsub_s rfl (lsub_s rfl lsub_0))) (by rfl)

