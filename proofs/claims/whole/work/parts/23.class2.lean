set_option maxRecDepth 100000 in
set_option maxHeartbeats 4000000 in
theorem c_X6_flyAtDusk (l : Launch) (G : GT) (h : Nat → Nat) (T : Tn) (hI : IT T) : Cn l yX6_flyAtDusk cX6_flyAtDusk 4 (Option.some .int) ({ frames := 3, cells := 0, slots := 0, locals := 73 }) G [.ref (h 0)] (wT G h T) (jst (some (.int (iI (sNl T (T 0 1))))) (wT G h (sFlyS T (T 0 1)))) := by
  refine Cn_in RX6 [some (.ref (h 0)), none, none, none] (by decide +kernel) rfl rfl rfl (Nat.le_of_ble_eq_true rfl) (fun K C hQ => ?_)
  have hBB := hI.b
  have hLL := hI.L
  have hDD := hI.D
  refine r_iconst (pc := 0) C dX6_flyAtDusk_0 ?_
  refine r_istore_n (pc := 1) C 1 dX6_flyAtDusk_1 rfl (Nat.le_of_ble_eq_true rfl) ?_
  refine r_iconst (pc := 2) C dX6_flyAtDusk_2 ?_
  refine r_istore_n (pc := 3) C 2 dX6_flyAtDusk_3 rfl (Nat.le_of_ble_eq_true rfl) ?_
  have L4 : ∀ (n : Nat) (i : Int), 0 ≤ i → i ≤ T 0 1 → T 0 1 < i + n → Wc K G 4 [some (.ref (h 0)), some (.int (iI (sNl T i))), some (.int (iI i)), none] [] (wT G h (sFlyS T i)) := by
    intro n
    induction n with
    | zero =>
      intro i h0 h1 hn; omega
    | succ n ih =>
      intro i h0 h1 hn 
      obtain ⟨hU, hU2, -⟩ := sFlyS_p hI h0 h1
      have e1 : sFlyS T i 0 1 = T 0 1 := by rw [hU2 0 (by decide)]
      have e10 : sFlyS T i 0 0 = T 0 0 := by rw [hU2 0 (by decide)]
      have hUo := hU.o
      have hUw := hU.w
      refine r_iload_n (pc := 4) C 2 dX6_flyAtDusk_4 rfl rfl ?_
      refine r_aload_n (pc := 5) C 0 dX6_flyAtDusk_5 rfl rfl ?_
      refine r_get (pc := 6) C 0 0 9 dX6_flyAtDusk_6 in_X6 rfl rfl (ci := 6) rfl (by decide) tw_93 rfl rfl ?_
      refine r_icmp_ge (pc := 9) (tgt := 108) C dX6_flyAtDusk_9 (by decide) (by first | omega | exact zand_rng _ _ | exact zor_rng _ _ | exact zxor_rng _ _ | exact BT.r (IT.b (by assumption)) _ _) (by first | omega | exact zand_rng _ _ | exact zor_rng _ _ | exact zxor_rng _ _ | exact BT.r (IT.b (by assumption)) _ _) (fun c9 => ?_) (fun c9 => ?_)
      · obtain rfl : i = T 0 1 := by omega
        refine r_iload_n (pc := 108) C 1 dX6_flyAtDusk_108 rfl rfl ?_
        exact r_iret (pc := 109) C hQ dX6_flyAtDusk_109 rfl (jst_ri (by rfl) rfl)
      · have hdd := hU.d h0 (by omega)
        have hff := sFly_r hU h0 (by omega)
        refine r_bipush (pc := 12) C dX6_flyAtDusk_12 (by decide) ?_
        refine r_istore_n (pc := 14) C 3 dX6_flyAtDusk_14 rfl (Nat.le_of_ble_eq_true rfl) ?_
        refine r_aload_n (pc := 15) C 0 dX6_flyAtDusk_15 rfl rfl ?_
        refine r_iload_n (pc := 16) C 2 dX6_flyAtDusk_16 rfl rfl ?_
        refine r_callV (pc := 17) (is := [0]) C YX6_mayFly dX6_flyAtDusk_17 tw_551 (c_X6_mayFly l G _ _ _ (by first | assumption | omega | exact zand_rng _ _ | exact zor_rng _ _ | exact zxor_rng _ _ | exact BT.r (IT.b (by assumption)) _ _) (by first | assumption | omega | exact zand_rng _ _ | exact zor_rng _ _ | exact zxor_rng _ _ | exact BT.r (IT.b (by assumption)) _ _)) 0 0 rfl rfl (ci := 6) rfl rfl rfl (by decide) rfl rfl (Nat.le_of_ble_eq_true rfl) ⟨rfl, rfl, by decide, by decide⟩ (jst_i (T_uall ..) ?_)
        refine r_ifb_eq (pc := 20) (tgt := 51) C dX6_flyAtDusk_20 (by decide) (fun c20 => ?_) (fun c20 => ?_)
        · refine r_iload_n (pc := 51) C 3 dX6_flyAtDusk_51 rfl rfl ?_
          refine r_bipush (pc := 52) C dX6_flyAtDusk_52 (by decide) ?_
          refine r_icmp_eq (pc := 54) (tgt := 89) C dX6_flyAtDusk_54 (by decide) (by first | omega | exact zand_rng _ _ | exact zor_rng _ _ | exact zxor_rng _ _ | exact BT.r (IT.b (by assumption)) _ _) (by first | omega | exact zand_rng _ _ | exact zor_rng _ _ | exact zxor_rng _ _ | exact BT.r (IT.b (by assumption)) _ _) (fun c54 => ?_) (fun c54 => absurd c54 (by omega))
          refine r_iload_n (pc := 89) C 3 dX6_flyAtDusk_89 rfl rfl ?_
          refine r_bipush (pc := 90) C dX6_flyAtDusk_90 (by decide) ?_
          refine r_icmp_eq (pc := 92) (tgt := 102) C dX6_flyAtDusk_92 (by decide) (by first | omega | exact zand_rng _ _ | exact zor_rng _ _ | exact zxor_rng _ _ | exact BT.r (IT.b (by assumption)) _ _) (by first | omega | exact zand_rng _ _ | exact zor_rng _ _ | exact zxor_rng _ _ | exact BT.r (IT.b (by assumption)) _ _) (fun c92 => ?_) (fun c92 => absurd c92 (by omega))
          refine r_iinc (pc := 102) C dX6_flyAtDusk_102 rfl ?_
          refine r_goto (pc := 105) (tgt := 4) C dX6_flyAtDusk_105 (by decide) ?_
          refine Wc.to (ih (i + 1) (by omega) (by omega) (by omega) ) rfl (lsub_s (by first | rfl | (first | (rw [sNl_y h0 (by omega) (by omega) (by omega) (by omega)]; done) | (rw [sNl_n h0 (by omega) (by omega)]; done))) (lsub_s (by first | rfl | (first | (rw [sNl_y h0 (by omega) (by omega) (by omega) (by omega)]; done) | (rw [sNl_n h0 (by omega) (by omega)]; done))) (lsub_s (by first | rfl | (first | (rw [sNl_y h0 (by omega) (by omega) (by omega) (by omega)]; done) | (rw [sNl_n h0 (by omega) (by omega)]; done))) (lsub_n lsub_0)))) (by rw [sFlyS_s T h0]; first | (rw [if_neg (by omega)]; done) | (rw [if_pos (by omega)]; unfold sGo; first | (rw [if_pos (by omega)]; done) | (rw [if_neg (by omega), if_pos (by omega)]; done) | (rw [if_neg (by omega), if_neg (by omega)]; done)))
        · have hfk : sFlyS T i 3 i = 0 ∨ sFlyS T i 3 i = 1 ∨ sFlyS T i 3 i = 2 ∨ sFlyS T i 3 i = 3 ∨ sFlyS T i 3 i = 4 ∨ sFlyS T i 3 i = 5 := by omega
          rcases hfk with kk0 | kk1 | kk2 | kk3 | kk4 | kk5
          · skip
            refine r_aload_n (pc := 23) C 0 dX6_flyAtDusk_23 rfl rfl ?_
            refine r_iload_n (pc := 24) C 2 dX6_flyAtDusk_24 rfl rfl ?_
            refine r_callV (pc := 25) (is := [0]) C YX6_kindOf dX6_flyAtDusk_25 tw_427 (c_X6_kindOf0 l G _ _ _ (by first | assumption | omega | exact zand_rng _ _ | exact zor_rng _ _ | exact zxor_rng _ _ | exact BT.r (IT.b (by assumption)) _ _) (by first | assumption | omega | exact zand_rng _ _ | exact zor_rng _ _ | exact zxor_rng _ _ | exact BT.r (IT.b (by assumption)) _ _) (by first | assumption | omega | exact zand_rng _ _ | exact zor_rng _ _ | exact zxor_rng _ _ | exact BT.r (IT.b (by assumption)) _ _)) 0 0 rfl rfl (ci := 6) rfl rfl rfl (by decide) rfl rfl (Nat.le_of_ble_eq_true rfl) ⟨rfl, rfl, by decide, by decide⟩ (jst_a (T_uall ..) ?_)
            refine r_aload_n (pc := 28) C 0 dX6_flyAtDusk_28 rfl rfl ?_
            refine r_aload_n (pc := 29) C 0 dX6_flyAtDusk_29 rfl rfl ?_
            refine r_get (pc := 30) C 0 0 6 dX6_flyAtDusk_30 in_X6 rfl rfl (ci := 6) rfl (by decide) tw_87 rfl rfl ?_
            refine r_iload_n (pc := 33) C 2 dX6_flyAtDusk_33 rfl rfl ?_
            refine r_iaload (pc := 34) C 0 7 dX6_flyAtDusk_34 rfl rfl (by decide) (by omega) ?_
            refine r_aload_n (pc := 35) C 0 dX6_flyAtDusk_35 rfl rfl ?_
            refine r_get (pc := 36) C 0 0 4 dX6_flyAtDusk_36 in_X6 rfl rfl (ci := 6) rfl (by decide) tw_83 rfl rfl ?_
            refine r_iload_n (pc := 39) C 2 dX6_flyAtDusk_39 rfl rfl ?_
            refine r_iaload (pc := 40) C 0 5 dX6_flyAtDusk_40 rfl rfl (by decide) (by omega) ?_
            refine r_aload_n (pc := 41) C 0 dX6_flyAtDusk_41 rfl rfl ?_
            refine r_get (pc := 42) C 0 0 5 dX6_flyAtDusk_42 in_X6 rfl rfl (ci := 6) rfl (by decide) tw_85 rfl rfl ?_
            refine r_iload_n (pc := 45) C 2 dX6_flyAtDusk_45 rfl rfl ?_
            refine r_iaload (pc := 46) C 0 6 dX6_flyAtDusk_46 rfl rfl (by decide) (by omega) ?_
            refine r_callV (pc := 47) (is := []) C YX1_aim dX6_flyAtDusk_47 tw_482 (c_X1_aim l G _ _ _ _ _) 0 9 rfl rfl (ci := 1) rfl rfl rfl (by decide) rfl rfl (Nat.le_of_ble_eq_true rfl) ⟨rfl, rfl, by decide, by decide⟩ (jst_i (ups_nil _) ?_)
            have hfl : (sFlyS T i) 4 i = sFly (sFlyS T i) i := by unfold sFly sAim; (repeat' split) <;> omega
            refine Wc.eq (st' := [.int (iI (sFly (sFlyS T i) i))]) ?_ rfl rfl (by rw [hfl]) rfl
            refine r_istore_n (pc := 50) C 3 dX6_flyAtDusk_50 rfl (Nat.le_of_ble_eq_true rfl) ?_
            refine r_iload_n (pc := 51) C 3 dX6_flyAtDusk_51 rfl rfl ?_
            refine r_bipush (pc := 52) C dX6_flyAtDusk_52 (by decide) ?_
            refine r_icmp_eq (pc := 54) (tgt := 89) C dX6_flyAtDusk_54 (by decide) (by first | omega | exact zand_rng _ _ | exact zor_rng _ _ | exact zxor_rng _ _ | exact BT.r (IT.b (by assumption)) _ _) (by first | omega | exact zand_rng _ _ | exact zor_rng _ _ | exact zxor_rng _ _ | exact BT.r (IT.b (by assumption)) _ _) (fun c54 => ?_) (fun c54 => ?_)
            · refine r_iload_n (pc := 89) C 3 dX6_flyAtDusk_89 rfl rfl ?_
              refine r_bipush (pc := 90) C dX6_flyAtDusk_90 (by decide) ?_
              refine r_icmp_eq (pc := 92) (tgt := 102) C dX6_flyAtDusk_92 (by decide) (by first | omega | exact zand_rng _ _ | exact zor_rng _ _ | exact zxor_rng _ _ | exact BT.r (IT.b (by assumption)) _ _) (by first | omega | exact zand_rng _ _ | exact zor_rng _ _ | exact zxor_rng _ _ | exact BT.r (IT.b (by assumption)) _ _) (fun c92 => ?_) (fun c92 => absurd c92 (by omega))
              refine r_iinc (pc := 102) C dX6_flyAtDusk_102 rfl ?_
              refine r_goto (pc := 105) (tgt := 4) C dX6_flyAtDusk_105 (by decide) ?_
              refine Wc.to (ih (i + 1) (by omega) (by omega) (by omega) ) rfl (lsub_s (by first | rfl | (first | (rw [sNl_y h0 (by omega) (by omega) (by omega) (by omega)]; done) | (rw [sNl_n h0 (by omega) (by omega)]; done))) (lsub_s (by first | rfl | (first | (rw [sNl_y h0 (by omega) (by omega) (by omega) (by omega)]; done) | (rw [sNl_n h0 (by omega) (by omega)]; done))) (lsub_s (by first | rfl | (first | (rw [sNl_y h0 (by omega) (by omega) (by omega) (by omega)]; done) | (rw [sNl_n h0 (by omega) (by omega)]; done))) (lsub_n lsub_0)))) (by rw [sFlyS_s T h0]; first | (rw [if_neg (by omega)]; done) | (rw [if_pos (by omega)]; unfold sGo; first | (rw [if_pos (by omega)]; done) | (rw [if_neg (by omega), if_pos (by omega)]; done) | (rw [if_neg (by omega), if_neg (by omega)]; done)))
            · have hw1 := sWay_r hU (a := sFlyS T i 6 i) (b := sFly (sFlyS T i) i) (by omega) (by omega)
              refine r_aload_n (pc := 57) C 0 dX6_flyAtDusk_57 rfl rfl ?_
              refine r_aload_n (pc := 58) C 0 dX6_flyAtDusk_58 rfl rfl ?_
              refine r_get (pc := 59) C 0 0 6 dX6_flyAtDusk_59 in_X6 rfl rfl (ci := 6) rfl (by decide) tw_87 rfl rfl ?_
              refine r_iload_n (pc := 62) C 2 dX6_flyAtDusk_62 rfl rfl ?_
              refine r_iaload (pc := 63) C 0 7 dX6_flyAtDusk_63 rfl rfl (by decide) (by omega) ?_
              refine r_iload_n (pc := 64) C 3 dX6_flyAtDusk_64 rfl rfl ?_
              refine r_callV (pc := 65) (is := [0]) C YX6_apart dX6_flyAtDusk_65 tw_498 (c_X6_apart l G _ _ _ _ (by first | assumption | omega | exact zand_rng _ _ | exact zor_rng _ _ | exact zxor_rng _ _ | exact BT.r (IT.b (by assumption)) _ _) (by first | assumption | omega | exact zand_rng _ _ | exact zor_rng _ _ | exact zxor_rng _ _ | exact BT.r (IT.b (by assumption)) _ _) (by first | assumption | omega | exact zand_rng _ _ | exact zor_rng _ _ | exact zxor_rng _ _ | exact BT.r (IT.b (by assumption)) _ _)) 0 0 rfl rfl (ci := 6) rfl rfl rfl (by decide) rfl rfl (Nat.le_of_ble_eq_true rfl) ⟨rfl, rfl, by decide, by decide⟩ (jst_i (T_uall ..) ?_)
              refine r_aload_n (pc := 68) C 0 dX6_flyAtDusk_68 rfl rfl ?_
              refine r_get (pc := 69) C 0 0 11 dX6_flyAtDusk_69 in_X6 rfl rfl (ci := 6) rfl (by decide) tw_97 rfl rfl ?_
              refine r_icmp_le (pc := 72) (tgt := 89) C dX6_flyAtDusk_72 (by decide) (by first | omega | exact zand_rng _ _ | exact zor_rng _ _ | exact zxor_rng _ _ | exact BT.r (IT.b (by assumption)) _ _) (by first | omega | exact zand_rng _ _ | exact zor_rng _ _ | exact zxor_rng _ _ | exact BT.r (IT.b (by assumption)) _ _) (fun c72 => ?_) (fun c72 => ?_)
              · refine r_iload_n (pc := 89) C 3 dX6_flyAtDusk_89 rfl rfl ?_
                refine r_bipush (pc := 90) C dX6_flyAtDusk_90 (by decide) ?_
                refine r_icmp_eq (pc := 92) (tgt := 102) C dX6_flyAtDusk_92 (by decide) (by first | omega | exact zand_rng _ _ | exact zor_rng _ _ | exact zxor_rng _ _ | exact BT.r (IT.b (by assumption)) _ _) (by first | omega | exact zand_rng _ _ | exact zor_rng _ _ | exact zxor_rng _ _ | exact BT.r (IT.b (by assumption)) _ _) (fun c92 => absurd c92 (by omega)) (fun c92 => ?_)
                refine r_aload_n (pc := 95) C 0 dX6_flyAtDusk_95 rfl rfl ?_
                refine r_get (pc := 96) C 0 0 6 dX6_flyAtDusk_96 in_X6 rfl rfl (ci := 6) rfl (by decide) tw_87 rfl rfl ?_
                refine r_iload_n (pc := 99) C 2 dX6_flyAtDusk_99 rfl rfl ?_
                refine r_iload_n (pc := 100) C 3 dX6_flyAtDusk_100 rfl rfl ?_
                refine r_iastore (pc := 101) C 0 7 dX6_flyAtDusk_101 rfl rfl (by decide) (by omega) rfl (T_a0_7 ..) ?_
                refine r_iinc (pc := 102) C dX6_flyAtDusk_102 rfl ?_
                refine r_goto (pc := 105) (tgt := 4) C dX6_flyAtDusk_105 (by decide) ?_
                refine Wc.to (ih (i + 1) (by omega) (by omega) (by omega) ) rfl (lsub_s (by first | rfl | (first | (rw [sNl_y h0 (by omega) (by omega) (by omega) (by omega)]; done) | (rw [sNl_n h0 (by omega) (by omega)]; done))) (lsub_s (by first | rfl | (first | (rw [sNl_y h0 (by omega) (by omega) (by omega) (by omega)]; done) | (rw [sNl_n h0 (by omega) (by omega)]; done))) (lsub_s (by first | rfl | (first | (rw [sNl_y h0 (by omega) (by omega) (by omega) (by omega)]; done) | (rw [sNl_n h0 (by omega) (by omega)]; done))) (lsub_n lsub_0)))) (by rw [sFlyS_s T h0]; first | (rw [if_neg (by omega)]; done) | (rw [if_pos (by omega)]; unfold sGo; first | (rw [if_pos (by omega)]; done) | (rw [if_neg (by omega), if_pos (by omega)]; done) | (rw [if_neg (by omega), if_neg (by omega)]; done)))
              · refine r_aload_n (pc := 75) C 0 dX6_flyAtDusk_75 rfl rfl ?_
                refine r_get (pc := 76) C 0 0 6 dX6_flyAtDusk_76 in_X6 rfl rfl (ci := 6) rfl (by decide) tw_87 rfl rfl ?_
                refine r_iload_n (pc := 79) C 2 dX6_flyAtDusk_79 rfl rfl ?_
                refine r_bipush (pc := 80) C dX6_flyAtDusk_80 (by decide) ?_
                refine r_iastore (pc := 82) C 0 7 dX6_flyAtDusk_82 rfl rfl (by decide) (by omega) rfl (T_a0_7 ..) ?_
                refine r_iinc (pc := 83) C dX6_flyAtDusk_83 rfl ?_
                refine r_goto (pc := 86) (tgt := 102) C dX6_flyAtDusk_86 (by decide) ?_
                refine r_iinc (pc := 102) C dX6_flyAtDusk_102 rfl ?_
                refine r_goto (pc := 105) (tgt := 4) C dX6_flyAtDusk_105 (by decide) ?_
                refine Wc.to (ih (i + 1) (by omega) (by omega) (by omega) ) rfl (lsub_s (by first | rfl | (first | (rw [sNl_y h0 (by omega) (by omega) (by omega) (by omega)]; done) | (rw [sNl_n h0 (by omega) (by omega)]; done))) (lsub_s (by first | rfl | (first | (rw [sNl_y h0 (by omega) (by omega) (by omega) (by omega)]; done) | (rw [sNl_n h0 (by omega) (by omega)]; done))) (lsub_s (by first | rfl | (first | (rw [sNl_y h0 (by omega) (by omega) (by omega) (by omega)]; done) | (rw [sNl_n h0 (by omega) (by omega)]; done))) (lsub_n lsub_0)))) (by rw [sFlyS_s T h0]; first | (rw [if_neg (by omega)]; done) | (rw [if_pos (by omega)]; unfold sGo; first | (rw [if_pos (by omega)]; done) | (rw [if_neg (by omega), if_pos (by omega)]; done) | (rw [if_neg (by omega), if_neg (by omega)]; done)))
          · skip
            refine r_aload_n (pc := 23) C 0 dX6_flyAtDusk_23 rfl rfl ?_
            refine r_iload_n (pc := 24) C 2 dX6_flyAtDusk_24 rfl rfl ?_
            refine r_callV (pc := 25) (is := [0]) C YX6_kindOf dX6_flyAtDusk_25 tw_427 (c_X6_kindOf1 l G _ _ _ (by first | assumption | omega | exact zand_rng _ _ | exact zor_rng _ _ | exact zxor_rng _ _ | exact BT.r (IT.b (by assumption)) _ _) (by first | assumption | omega | exact zand_rng _ _ | exact zor_rng _ _ | exact zxor_rng _ _ | exact BT.r (IT.b (by assumption)) _ _) (by first | assumption | omega | exact zand_rng _ _ | exact zor_rng _ _ | exact zxor_rng _ _ | exact BT.r (IT.b (by assumption)) _ _)) 0 0 rfl rfl (ci := 6) rfl rfl rfl (by decide) rfl rfl (Nat.le_of_ble_eq_true rfl) ⟨rfl, rfl, by decide, by decide⟩ (jst_a (T_uall ..) ?_)
            refine r_aload_n (pc := 28) C 0 dX6_flyAtDusk_28 rfl rfl ?_
            refine r_aload_n (pc := 29) C 0 dX6_flyAtDusk_29 rfl rfl ?_
            refine r_get (pc := 30) C 0 0 6 dX6_flyAtDusk_30 in_X6 rfl rfl (ci := 6) rfl (by decide) tw_87 rfl rfl ?_
            refine r_iload_n (pc := 33) C 2 dX6_flyAtDusk_33 rfl rfl ?_
            refine r_iaload (pc := 34) C 0 7 dX6_flyAtDusk_34 rfl rfl (by decide) (by omega) ?_
            refine r_aload_n (pc := 35) C 0 dX6_flyAtDusk_35 rfl rfl ?_
            refine r_get (pc := 36) C 0 0 4 dX6_flyAtDusk_36 in_X6 rfl rfl (ci := 6) rfl (by decide) tw_83 rfl rfl ?_
            refine r_iload_n (pc := 39) C 2 dX6_flyAtDusk_39 rfl rfl ?_
            refine r_iaload (pc := 40) C 0 5 dX6_flyAtDusk_40 rfl rfl (by decide) (by omega) ?_
            refine r_aload_n (pc := 41) C 0 dX6_flyAtDusk_41 rfl rfl ?_
            refine r_get (pc := 42) C 0 0 5 dX6_flyAtDusk_42 in_X6 rfl rfl (ci := 6) rfl (by decide) tw_85 rfl rfl ?_
            refine r_iload_n (pc := 45) C 2 dX6_flyAtDusk_45 rfl rfl ?_
            refine r_iaload (pc := 46) C 0 6 dX6_flyAtDusk_46 rfl rfl (by decide) (by omega) ?_
            refine r_callU (pc := 47) (is := [0]) (C0 := RX2) (x := yX1_aim) C YBX2_aim dX6_flyAtDusk_47 tw_482 tw_485 tw_483 tw_511 (by decide +kernel) ⟨by decide +kernel, by decide +kernel⟩ tw_488 tw_487 (c_X2_aim l G _ _ _ _ _ (by first | assumption | omega | exact zand_rng _ _ | exact zor_rng _ _ | exact zxor_rng _ _ | exact BT.r (IT.b (by assumption)) _ _)) 0 10 rfl rfl (ci := 2) rfl rfl (by decide) rfl rfl (Nat.le_of_ble_eq_true rfl) ⟨rfl, rfl, by decide, by decide⟩ (jst_i (T_uall ..) ?_)
            have hfl : (if 5 ≤ (sFlyS T i) 5 i then 9 else (sFlyS T i) 4 i) = sFly (sFlyS T i) i := by unfold sFly sAim; (repeat' split) <;> omega
            refine Wc.eq (st' := [.int (iI (sFly (sFlyS T i) i))]) ?_ rfl rfl (by rw [hfl]) rfl
            refine r_istore_n (pc := 50) C 3 dX6_flyAtDusk_50 rfl (Nat.le_of_ble_eq_true rfl) ?_
            refine r_iload_n (pc := 51) C 3 dX6_flyAtDusk_51 rfl rfl ?_
            refine r_bipush (pc := 52) C dX6_flyAtDusk_52 (by decide) ?_
            refine r_icmp_eq (pc := 54) (tgt := 89) C dX6_flyAtDusk_54 (by decide) (by first | omega | exact zand_rng _ _ | exact zor_rng _ _ | exact zxor_rng _ _ | exact BT.r (IT.b (by assumption)) _ _) (by first | omega | exact zand_rng _ _ | exact zor_rng _ _ | exact zxor_rng _ _ | exact BT.r (IT.b (by assumption)) _ _) (fun c54 => ?_) (fun c54 => ?_)
            · refine r_iload_n (pc := 89) C 3 dX6_flyAtDusk_89 rfl rfl ?_
              refine r_bipush (pc := 90) C dX6_flyAtDusk_90 (by decide) ?_
              refine r_icmp_eq (pc := 92) (tgt := 102) C dX6_flyAtDusk_92 (by decide) (by first | omega | exact zand_rng _ _ | exact zor_rng _ _ | exact zxor_rng _ _ | exact BT.r (IT.b (by assumption)) _ _) (by first | omega | exact zand_rng _ _ | exact zor_rng _ _ | exact zxor_rng _ _ | exact BT.r (IT.b (by assumption)) _ _) (fun c92 => ?_) (fun c92 => absurd c92 (by omega))
              refine r_iinc (pc := 102) C dX6_flyAtDusk_102 rfl ?_
              refine r_goto (pc := 105) (tgt := 4) C dX6_flyAtDusk_105 (by decide) ?_
              refine Wc.to (ih (i + 1) (by omega) (by omega) (by omega) ) rfl (lsub_s (by first | rfl | (first | (rw [sNl_y h0 (by omega) (by omega) (by omega) (by omega)]; done) | (rw [sNl_n h0 (by omega) (by omega)]; done))) (lsub_s (by first | rfl | (first | (rw [sNl_y h0 (by omega) (by omega) (by omega) (by omega)]; done) | (rw [sNl_n h0 (by omega) (by omega)]; done))) (lsub_s (by first | rfl | (first | (rw [sNl_y h0 (by omega) (by omega) (by omega) (by omega)]; done) | (rw [sNl_n h0 (by omega) (by omega)]; done))) (lsub_n lsub_0)))) (by rw [sFlyS_s T h0]; first | (rw [if_neg (by omega)]; done) | (rw [if_pos (by omega)]; unfold sGo; first | (rw [if_pos (by omega)]; done) | (rw [if_neg (by omega), if_pos (by omega)]; done) | (rw [if_neg (by omega), if_neg (by omega)]; done)))
            · have hw1 := sWay_r hU (a := sFlyS T i 6 i) (b := sFly (sFlyS T i) i) (by omega) (by omega)
              refine r_aload_n (pc := 57) C 0 dX6_flyAtDusk_57 rfl rfl ?_
              refine r_aload_n (pc := 58) C 0 dX6_flyAtDusk_58 rfl rfl ?_
              refine r_get (pc := 59) C 0 0 6 dX6_flyAtDusk_59 in_X6 rfl rfl (ci := 6) rfl (by decide) tw_87 rfl rfl ?_
              refine r_iload_n (pc := 62) C 2 dX6_flyAtDusk_62 rfl rfl ?_
              refine r_iaload (pc := 63) C 0 7 dX6_flyAtDusk_63 rfl rfl (by decide) (by omega) ?_
              refine r_iload_n (pc := 64) C 3 dX6_flyAtDusk_64 rfl rfl ?_
              refine r_callV (pc := 65) (is := [0]) C YX6_apart dX6_flyAtDusk_65 tw_498 (c_X6_apart l G _ _ _ _ (by first | assumption | omega | exact zand_rng _ _ | exact zor_rng _ _ | exact zxor_rng _ _ | exact BT.r (IT.b (by assumption)) _ _) (by first | assumption | omega | exact zand_rng _ _ | exact zor_rng _ _ | exact zxor_rng _ _ | exact BT.r (IT.b (by assumption)) _ _) (by first | assumption | omega | exact zand_rng _ _ | exact zor_rng _ _ | exact zxor_rng _ _ | exact BT.r (IT.b (by assumption)) _ _)) 0 0 rfl rfl (ci := 6) rfl rfl rfl (by decide) rfl rfl (Nat.le_of_ble_eq_true rfl) ⟨rfl, rfl, by decide, by decide⟩ (jst_i (T_uall ..) ?_)
              refine r_aload_n (pc := 68) C 0 dX6_flyAtDusk_68 rfl rfl ?_
              refine r_get (pc := 69) C 0 0 11 dX6_flyAtDusk_69 in_X6 rfl rfl (ci := 6) rfl (by decide) tw_97 rfl rfl ?_
              refine r_icmp_le (pc := 72) (tgt := 89) C dX6_flyAtDusk_72 (by decide) (by first | omega | exact zand_rng _ _ | exact zor_rng _ _ | exact zxor_rng _ _ | exact BT.r (IT.b (by assumption)) _ _) (by first | omega | exact zand_rng _ _ | exact zor_rng _ _ | exact zxor_rng _ _ | exact BT.r (IT.b (by assumption)) _ _) (fun c72 => ?_) (fun c72 => ?_)
              · refine r_iload_n (pc := 89) C 3 dX6_flyAtDusk_89 rfl rfl ?_
                refine r_bipush (pc := 90) C dX6_flyAtDusk_90 (by decide) ?_
                refine r_icmp_eq (pc := 92) (tgt := 102) C dX6_flyAtDusk_92 (by decide) (by first | omega | exact zand_rng _ _ | exact zor_rng _ _ | exact zxor_rng _ _ | exact BT.r (IT.b (by assumption)) _ _) (by first | omega | exact zand_rng _ _ | exact zor_rng _ _ | exact zxor_rng _ _ | exact BT.r (IT.b (by assumption)) _ _) (fun c92 => absurd c92 (by omega)) (fun c92 => ?_)
                refine r_aload_n (pc := 95) C 0 dX6_flyAtDusk_95 rfl rfl ?_
                refine r_get (pc := 96) C 0 0 6 dX6_flyAtDusk_96 in_X6 rfl rfl (ci := 6) rfl (by decide) tw_87 rfl rfl ?_
                refine r_iload_n (pc := 99) C 2 dX6_flyAtDusk_99 rfl rfl ?_
                refine r_iload_n (pc := 100) C 3 dX6_flyAtDusk_100 rfl rfl ?_
                refine r_iastore (pc := 101) C 0 7 dX6_flyAtDusk_101 rfl rfl (by decide) (by omega) rfl (T_a0_7 ..) ?_
                refine r_iinc (pc := 102) C dX6_flyAtDusk_102 rfl ?_
                refine r_goto (pc := 105) (tgt := 4) C dX6_flyAtDusk_105 (by decide) ?_
                refine Wc.to (ih (i + 1) (by omega) (by omega) (by omega) ) rfl (lsub_s (by first | rfl | (first | (rw [sNl_y h0 (by omega) (by omega) (by omega) (by omega)]; done) | (rw [sNl_n h0 (by omega) (by omega)]; done))) (lsub_s (by first | rfl | (first | (rw [sNl_y h0 (by omega) (by omega) (by omega) (by omega)]; done) | (rw [sNl_n h0 (by omega) (by omega)]; done))) (lsub_s (by first | rfl | (first | (rw [sNl_y h0 (by omega) (by omega) (by omega) (by omega)]; done) | (rw [sNl_n h0 (by omega) (by omega)]; done))) (lsub_n lsub_0)))) (by rw [sFlyS_s T h0]; first | (rw [if_neg (by omega)]; done) | (rw [if_pos (by omega)]; unfold sGo; first | (rw [if_pos (by omega)]; done) | (rw [if_neg (by omega), if_pos (by omega)]; done) | (rw [if_neg (by omega), if_neg (by omega)]; done)))
              · refine r_aload_n (pc := 75) C 0 dX6_flyAtDusk_75 rfl rfl ?_
                refine r_get (pc := 76) C 0 0 6 dX6_flyAtDusk_76 in_X6 rfl rfl (ci := 6) rfl (by decide) tw_87 rfl rfl ?_
                refine r_iload_n (pc := 79) C 2 dX6_flyAtDusk_79 rfl rfl ?_
                refine r_bipush (pc := 80) C dX6_flyAtDusk_80 (by decide) ?_
                refine r_iastore (pc := 82) C 0 7 dX6_flyAtDusk_82 rfl rfl (by decide) (by omega) rfl (T_a0_7 ..) ?_
                refine r_iinc (pc := 83) C dX6_flyAtDusk_83 rfl ?_
                refine r_goto (pc := 86) (tgt := 102) C dX6_flyAtDusk_86 (by decide) ?_
                refine r_iinc (pc := 102) C dX6_flyAtDusk_102 rfl ?_
                refine r_goto (pc := 105) (tgt := 4) C dX6_flyAtDusk_105 (by decide) ?_
                refine Wc.to (ih (i + 1) (by omega) (by omega) (by omega) ) rfl (lsub_s (by first | rfl | (first | (rw [sNl_y h0 (by omega) (by omega) (by omega) (by omega)]; done) | (rw [sNl_n h0 (by omega) (by omega)]; done))) (lsub_s (by first | rfl | (first | (rw [sNl_y h0 (by omega) (by omega) (by omega) (by omega)]; done) | (rw [sNl_n h0 (by omega) (by omega)]; done))) (lsub_s (by first | rfl | (first | (rw [sNl_y h0 (by omega) (by omega) (by omega) (by omega)]; done) | (rw [sNl_n h0 (by omega) (by omega)]; done))) (lsub_n lsub_0)))) (by rw [sFlyS_s T h0]; first | (rw [if_neg (by omega)]; done) | (rw [if_pos (by omega)]; unfold sGo; first | (rw [if_pos (by omega)]; done) | (rw [if_neg (by omega), if_pos (by omega)]; done) | (rw [if_neg (by omega), if_neg (by omega)]; done)))
          · skip
            refine r_aload_n (pc := 23) C 0 dX6_flyAtDusk_23 rfl rfl ?_
            refine r_iload_n (pc := 24) C 2 dX6_flyAtDusk_24 rfl rfl ?_
            refine r_callV (pc := 25) (is := [0]) C YX6_kindOf dX6_flyAtDusk_25 tw_427 (c_X6_kindOf2 l G _ _ _ (by first | assumption | omega | exact zand_rng _ _ | exact zor_rng _ _ | exact zxor_rng _ _ | exact BT.r (IT.b (by assumption)) _ _) (by first | assumption | omega | exact zand_rng _ _ | exact zor_rng _ _ | exact zxor_rng _ _ | exact BT.r (IT.b (by assumption)) _ _) (by first | assumption | omega | exact zand_rng _ _ | exact zor_rng _ _ | exact zxor_rng _ _ | exact BT.r (IT.b (by assumption)) _ _)) 0 0 rfl rfl (ci := 6) rfl rfl rfl (by decide) rfl rfl (Nat.le_of_ble_eq_true rfl) ⟨rfl, rfl, by decide, by decide⟩ (jst_a (T_uall ..) ?_)
            refine r_aload_n (pc := 28) C 0 dX6_flyAtDusk_28 rfl rfl ?_
            refine r_aload_n (pc := 29) C 0 dX6_flyAtDusk_29 rfl rfl ?_
            refine r_get (pc := 30) C 0 0 6 dX6_flyAtDusk_30 in_X6 rfl rfl (ci := 6) rfl (by decide) tw_87 rfl rfl ?_
            refine r_iload_n (pc := 33) C 2 dX6_flyAtDusk_33 rfl rfl ?_
            refine r_iaload (pc := 34) C 0 7 dX6_flyAtDusk_34 rfl rfl (by decide) (by omega) ?_
            refine r_aload_n (pc := 35) C 0 dX6_flyAtDusk_35 rfl rfl ?_
            refine r_get (pc := 36) C 0 0 4 dX6_flyAtDusk_36 in_X6 rfl rfl (ci := 6) rfl (by decide) tw_83 rfl rfl ?_
            refine r_iload_n (pc := 39) C 2 dX6_flyAtDusk_39 rfl rfl ?_
            refine r_iaload (pc := 40) C 0 5 dX6_flyAtDusk_40 rfl rfl (by decide) (by omega) ?_
            refine r_aload_n (pc := 41) C 0 dX6_flyAtDusk_41 rfl rfl ?_
            refine r_get (pc := 42) C 0 0 5 dX6_flyAtDusk_42 in_X6 rfl rfl (ci := 6) rfl (by decide) tw_85 rfl rfl ?_
            refine r_iload_n (pc := 45) C 2 dX6_flyAtDusk_45 rfl rfl ?_
            refine r_iaload (pc := 46) C 0 6 dX6_flyAtDusk_46 rfl rfl (by decide) (by omega) ?_
            refine r_callU (pc := 47) (is := [0]) (C0 := RX7) (x := yX1_aim) C YBX7_aim dX6_flyAtDusk_47 tw_482 tw_485 tw_483 tw_511 (by decide +kernel) ⟨by decide +kernel, by decide +kernel⟩ tw_507 tw_510 (c_X7_aim l G _ _ _ _ _ _ (by first | assumption | omega | exact zand_rng _ _ | exact zor_rng _ _ | exact zxor_rng _ _ | exact BT.r (IT.b (by assumption)) _ _) (by first | assumption | omega | exact zand_rng _ _ | exact zor_rng _ _ | exact zxor_rng _ _ | exact BT.r (IT.b (by assumption)) _ _) (by first | assumption | omega | exact zand_rng _ _ | exact zor_rng _ _ | exact zxor_rng _ _ | exact BT.r (IT.b (by assumption)) _ _) (by first | assumption | omega | exact zand_rng _ _ | exact zor_rng _ _ | exact zxor_rng _ _ | exact BT.r (IT.b (by assumption)) _ _)) 0 11 rfl rfl (ci := 7) rfl rfl (by decide) rfl rfl (Nat.le_of_ble_eq_true rfl) ⟨rfl, rfl, by decide, by decide⟩ (jst_i (T_uall ..) ?_)
            have hfl : (if sWay (sFlyS T i) ((sFlyS T i) 6 i) ((sFlyS T i) 4 i) ≤ 2 * (sFlyS T i) 5 i then (sFlyS T i) 4 i else 9) = sFly (sFlyS T i) i := by unfold sFly sAim; (repeat' split) <;> omega
            refine Wc.eq (st' := [.int (iI (sFly (sFlyS T i) i))]) ?_ rfl rfl (by rw [hfl]) rfl
            refine r_istore_n (pc := 50) C 3 dX6_flyAtDusk_50 rfl (Nat.le_of_ble_eq_true rfl) ?_
            refine r_iload_n (pc := 51) C 3 dX6_flyAtDusk_51 rfl rfl ?_
            refine r_bipush (pc := 52) C dX6_flyAtDusk_52 (by decide) ?_
            refine r_icmp_eq (pc := 54) (tgt := 89) C dX6_flyAtDusk_54 (by decide) (by first | omega | exact zand_rng _ _ | exact zor_rng _ _ | exact zxor_rng _ _ | exact BT.r (IT.b (by assumption)) _ _) (by first | omega | exact zand_rng _ _ | exact zor_rng _ _ | exact zxor_rng _ _ | exact BT.r (IT.b (by assumption)) _ _) (fun c54 => ?_) (fun c54 => ?_)
            · refine r_iload_n (pc := 89) C 3 dX6_flyAtDusk_89 rfl rfl ?_
              refine r_bipush (pc := 90) C dX6_flyAtDusk_90 (by decide) ?_
              refine r_icmp_eq (pc := 92) (tgt := 102) C dX6_flyAtDusk_92 (by decide) (by first | omega | exact zand_rng _ _ | exact zor_rng _ _ | exact zxor_rng _ _ | exact BT.r (IT.b (by assumption)) _ _) (by first | omega | exact zand_rng _ _ | exact zor_rng _ _ | exact zxor_rng _ _ | exact BT.r (IT.b (by assumption)) _ _) (fun c92 => ?_) (fun c92 => absurd c92 (by omega))
              refine r_iinc (pc := 102) C dX6_flyAtDusk_102 rfl ?_
              refine r_goto (pc := 105) (tgt := 4) C dX6_flyAtDusk_105 (by decide) ?_
              refine Wc.to (ih (i + 1) (by omega) (by omega) (by omega) ) rfl (lsub_s (by first | rfl | (first | (rw [sNl_y h0 (by omega) (by omega) (by omega) (by omega)]; done) | (rw [sNl_n h0 (by omega) (by omega)]; done))) (lsub_s (by first | rfl | (first | (rw [sNl_y h0 (by omega) (by omega) (by omega) (by omega)]; done) | (rw [sNl_n h0 (by omega) (by omega)]; done))) (lsub_s (by first | rfl | (first | (rw [sNl_y h0 (by omega) (by omega) (by omega) (by omega)]; done) | (rw [sNl_n h0 (by omega) (by omega)]; done))) (lsub_n lsub_0)))) (by rw [sFlyS_s T h0]; first | (rw [if_neg (by omega)]; done) | (rw [if_pos (by omega)]; unfold sGo; first | (rw [if_pos (by omega)]; done) | (rw [if_neg (by omega), if_pos (by omega)]; done) | (rw [if_neg (by omega), if_neg (by omega)]; done)))
            · have hw1 := sWay_r hU (a := sFlyS T i 6 i) (b := sFly (sFlyS T i) i) (by omega) (by omega)
              refine r_aload_n (pc := 57) C 0 dX6_flyAtDusk_57 rfl rfl ?_
              refine r_aload_n (pc := 58) C 0 dX6_flyAtDusk_58 rfl rfl ?_
              refine r_get (pc := 59) C 0 0 6 dX6_flyAtDusk_59 in_X6 rfl rfl (ci := 6) rfl (by decide) tw_87 rfl rfl ?_
              refine r_iload_n (pc := 62) C 2 dX6_flyAtDusk_62 rfl rfl ?_
              refine r_iaload (pc := 63) C 0 7 dX6_flyAtDusk_63 rfl rfl (by decide) (by omega) ?_
              refine r_iload_n (pc := 64) C 3 dX6_flyAtDusk_64 rfl rfl ?_
              refine r_callV (pc := 65) (is := [0]) C YX6_apart dX6_flyAtDusk_65 tw_498 (c_X6_apart l G _ _ _ _ (by first | assumption | omega | exact zand_rng _ _ | exact zor_rng _ _ | exact zxor_rng _ _ | exact BT.r (IT.b (by assumption)) _ _) (by first | assumption | omega | exact zand_rng _ _ | exact zor_rng _ _ | exact zxor_rng _ _ | exact BT.r (IT.b (by assumption)) _ _) (by first | assumption | omega | exact zand_rng _ _ | exact zor_rng _ _ | exact zxor_rng _ _ | exact BT.r (IT.b (by assumption)) _ _)) 0 0 rfl rfl (ci := 6) rfl rfl rfl (by decide) rfl rfl (Nat.le_of_ble_eq_true rfl) ⟨rfl, rfl, by decide, by decide⟩ (jst_i (T_uall ..) ?_)
              refine r_aload_n (pc := 68) C 0 dX6_flyAtDusk_68 rfl rfl ?_
              refine r_get (pc := 69) C 0 0 11 dX6_flyAtDusk_69 in_X6 rfl rfl (ci := 6) rfl (by decide) tw_97 rfl rfl ?_
              refine r_icmp_le (pc := 72) (tgt := 89) C dX6_flyAtDusk_72 (by decide) (by first | omega | exact zand_rng _ _ | exact zor_rng _ _ | exact zxor_rng _ _ | exact BT.r (IT.b (by assumption)) _ _) (by first | omega | exact zand_rng _ _ | exact zor_rng _ _ | exact zxor_rng _ _ | exact BT.r (IT.b (by assumption)) _ _) (fun c72 => ?_) (fun c72 => ?_)
              · refine r_iload_n (pc := 89) C 3 dX6_flyAtDusk_89 rfl rfl ?_
                refine r_bipush (pc := 90) C dX6_flyAtDusk_90 (by decide) ?_
                refine r_icmp_eq (pc := 92) (tgt := 102) C dX6_flyAtDusk_92 (by decide) (by first | omega | exact zand_rng _ _ | exact zor_rng _ _ | exact zxor_rng _ _ | exact BT.r (IT.b (by assumption)) _ _) (by first | omega | exact zand_rng _ _ | exact zor_rng _ _ | exact zxor_rng _ _ | exact BT.r (IT.b (by assumption)) _ _) (fun c92 => absurd c92 (by omega)) (fun c92 => ?_)
                refine r_aload_n (pc := 95) C 0 dX6_flyAtDusk_95 rfl rfl ?_
                refine r_get (pc := 96) C 0 0 6 dX6_flyAtDusk_96 in_X6 rfl rfl (ci := 6) rfl (by decide) tw_87 rfl rfl ?_
                refine r_iload_n (pc := 99) C 2 dX6_flyAtDusk_99 rfl rfl ?_
                refine r_iload_n (pc := 100) C 3 dX6_flyAtDusk_100 rfl rfl ?_
                refine r_iastore (pc := 101) C 0 7 dX6_flyAtDusk_101 rfl rfl (by decide) (by omega) rfl (T_a0_7 ..) ?_
                refine r_iinc (pc := 102) C dX6_flyAtDusk_102 rfl ?_
                refine r_goto (pc := 105) (tgt := 4) C dX6_flyAtDusk_105 (by decide) ?_
                refine Wc.to (ih (i + 1) (by omega) (by omega) (by omega) ) rfl (lsub_s (by first | rfl | (first | (rw [sNl_y h0 (by omega) (by omega) (by omega) (by omega)]; done) | (rw [sNl_n h0 (by omega) (by omega)]; done))) (lsub_s (by first | rfl | (first | (rw [sNl_y h0 (by omega) (by omega) (by omega) (by omega)]; done) | (rw [sNl_n h0 (by omega) (by omega)]; done))) (lsub_s (by first | rfl | (first | (rw [sNl_y h0 (by omega) (by omega) (by omega) (by omega)]; done) | (rw [sNl_n h0 (by omega) (by omega)]; done))) (lsub_n lsub_0)))) (by rw [sFlyS_s T h0]; first | (rw [if_neg (by omega)]; done) | (rw [if_pos (by omega)]; unfold sGo; first | (rw [if_pos (by omega)]; done) | (rw [if_neg (by omega), if_pos (by omega)]; done) | (rw [if_neg (by omega), if_neg (by omega)]; done)))
              · refine r_aload_n (pc := 75) C 0 dX6_flyAtDusk_75 rfl rfl ?_
                refine r_get (pc := 76) C 0 0 6 dX6_flyAtDusk_76 in_X6 rfl rfl (ci := 6) rfl (by decide) tw_87 rfl rfl ?_
                refine r_iload_n (pc := 79) C 2 dX6_flyAtDusk_79 rfl rfl ?_
                refine r_bipush (pc := 80) C dX6_flyAtDusk_80 (by decide) ?_
                refine r_iastore (pc := 82) C 0 7 dX6_flyAtDusk_82 rfl rfl (by decide) (by omega) rfl (T_a0_7 ..) ?_
                refine r_iinc (pc := 83) C dX6_flyAtDusk_83 rfl ?_
                refine r_goto (pc := 86) (tgt := 102) C dX6_flyAtDusk_86 (by decide) ?_
                refine r_iinc (pc := 102) C dX6_flyAtDusk_102 rfl ?_
                refine r_goto (pc := 105) (tgt := 4) C dX6_flyAtDusk_105 (by decide) ?_
                refine Wc.to (ih (i + 1) (by omega) (by omega) (by omega) ) rfl (lsub_s (by first | rfl | (first | (rw [sNl_y h0 (by omega) (by omega) (by omega) (by omega)]; done) | (rw [sNl_n h0 (by omega) (by omega)]; done))) (lsub_s (by first | rfl | (first | (rw [sNl_y h0 (by omega) (by omega) (by omega) (by omega)]; done) | (rw [sNl_n h0 (by omega) (by omega)]; done))) (lsub_s (by first | rfl | (first | (rw [sNl_y h0 (by omega) (by omega) (by omega) (by omega)]; done) | (rw [sNl_n h0 (by omega) (by omega)]; done))) (lsub_n lsub_0)))) (by rw [sFlyS_s T h0]; first | (rw [if_neg (by omega)]; done) | (rw [if_pos (by omega)]; unfold sGo; first | (rw [if_pos (by omega)]; done) | (rw [if_neg (by omega), if_pos (by omega)]; done) | (rw [if_neg (by omega), if_neg (by omega)]; done)))
          · skip
            refine r_aload_n (pc := 23) C 0 dX6_flyAtDusk_23 rfl rfl ?_
            refine r_iload_n (pc := 24) C 2 dX6_flyAtDusk_24 rfl rfl ?_
            refine r_callV (pc := 25) (is := [0]) C YX6_kindOf dX6_flyAtDusk_25 tw_427 (c_X6_kindOf3 l G _ _ _ (by first | assumption | omega | exact zand_rng _ _ | exact zor_rng _ _ | exact zxor_rng _ _ | exact BT.r (IT.b (by assumption)) _ _) (by first | assumption | omega | exact zand_rng _ _ | exact zor_rng _ _ | exact zxor_rng _ _ | exact BT.r (IT.b (by assumption)) _ _) (by first | assumption | omega | exact zand_rng _ _ | exact zor_rng _ _ | exact zxor_rng _ _ | exact BT.r (IT.b (by assumption)) _ _)) 0 0 rfl rfl (ci := 6) rfl rfl rfl (by decide) rfl rfl (Nat.le_of_ble_eq_true rfl) ⟨rfl, rfl, by decide, by decide⟩ (jst_a (T_uall ..) ?_)
            refine r_aload_n (pc := 28) C 0 dX6_flyAtDusk_28 rfl rfl ?_
            refine r_aload_n (pc := 29) C 0 dX6_flyAtDusk_29 rfl rfl ?_
            refine r_get (pc := 30) C 0 0 6 dX6_flyAtDusk_30 in_X6 rfl rfl (ci := 6) rfl (by decide) tw_87 rfl rfl ?_
            refine r_iload_n (pc := 33) C 2 dX6_flyAtDusk_33 rfl rfl ?_
            refine r_iaload (pc := 34) C 0 7 dX6_flyAtDusk_34 rfl rfl (by decide) (by omega) ?_
            refine r_aload_n (pc := 35) C 0 dX6_flyAtDusk_35 rfl rfl ?_
            refine r_get (pc := 36) C 0 0 4 dX6_flyAtDusk_36 in_X6 rfl rfl (ci := 6) rfl (by decide) tw_83 rfl rfl ?_
            refine r_iload_n (pc := 39) C 2 dX6_flyAtDusk_39 rfl rfl ?_
            refine r_iaload (pc := 40) C 0 5 dX6_flyAtDusk_40 rfl rfl (by decide) (by omega) ?_
            refine r_aload_n (pc := 41) C 0 dX6_flyAtDusk_41 rfl rfl ?_
            refine r_get (pc := 42) C 0 0 5 dX6_flyAtDusk_42 in_X6 rfl rfl (ci := 6) rfl (by decide) tw_85 rfl rfl ?_
            refine r_iload_n (pc := 45) C 2 dX6_flyAtDusk_45 rfl rfl ?_
            refine r_iaload (pc := 46) C 0 6 dX6_flyAtDusk_46 rfl rfl (by decide) (by omega) ?_
            refine r_callU (pc := 47) (is := [0]) (C0 := RX3) (x := yX1_aim) C YBX3_aim dX6_flyAtDusk_47 tw_482 tw_485 tw_483 tw_511 (by decide +kernel) ⟨by decide +kernel, by decide +kernel⟩ tw_492 tw_491 (c_X3_aim l G _ _ _ _ _ _ (by first | assumption | omega | exact zand_rng _ _ | exact zor_rng _ _ | exact zxor_rng _ _ | exact BT.r (IT.b (by assumption)) _ _) (by first | assumption | omega | exact zand_rng _ _ | exact zor_rng _ _ | exact zxor_rng _ _ | exact BT.r (IT.b (by assumption)) _ _)) 0 12 rfl rfl (ci := 3) rfl rfl (by decide) rfl rfl (Nat.le_of_ble_eq_true rfl) ⟨rfl, rfl, by decide, by decide⟩ (jst_i (T_uall ..) ?_)
            have hfl : sNear (sFlyS T i) ((sFlyS T i) 6 i) ((sFlyS T i) 0 0) = sFly (sFlyS T i) i := by unfold sFly sAim; (repeat' split) <;> omega
            refine Wc.eq (st' := [.int (iI (sFly (sFlyS T i) i))]) ?_ rfl rfl (by rw [hfl]) rfl
            refine r_istore_n (pc := 50) C 3 dX6_flyAtDusk_50 rfl (Nat.le_of_ble_eq_true rfl) ?_
            refine r_iload_n (pc := 51) C 3 dX6_flyAtDusk_51 rfl rfl ?_
            refine r_bipush (pc := 52) C dX6_flyAtDusk_52 (by decide) ?_
            refine r_icmp_eq (pc := 54) (tgt := 89) C dX6_flyAtDusk_54 (by decide) (by first | omega | exact zand_rng _ _ | exact zor_rng _ _ | exact zxor_rng _ _ | exact BT.r (IT.b (by assumption)) _ _) (by first | omega | exact zand_rng _ _ | exact zor_rng _ _ | exact zxor_rng _ _ | exact BT.r (IT.b (by assumption)) _ _) (fun c54 => ?_) (fun c54 => ?_)
            · refine r_iload_n (pc := 89) C 3 dX6_flyAtDusk_89 rfl rfl ?_
              refine r_bipush (pc := 90) C dX6_flyAtDusk_90 (by decide) ?_
              refine r_icmp_eq (pc := 92) (tgt := 102) C dX6_flyAtDusk_92 (by decide) (by first | omega | exact zand_rng _ _ | exact zor_rng _ _ | exact zxor_rng _ _ | exact BT.r (IT.b (by assumption)) _ _) (by first | omega | exact zand_rng _ _ | exact zor_rng _ _ | exact zxor_rng _ _ | exact BT.r (IT.b (by assumption)) _ _) (fun c92 => ?_) (fun c92 => absurd c92 (by omega))
              refine r_iinc (pc := 102) C dX6_flyAtDusk_102 rfl ?_
              refine r_goto (pc := 105) (tgt := 4) C dX6_flyAtDusk_105 (by decide) ?_
              refine Wc.to (ih (i + 1) (by omega) (by omega) (by omega) ) rfl (lsub_s (by first | rfl | (first | (rw [sNl_y h0 (by omega) (by omega) (by omega) (by omega)]; done) | (rw [sNl_n h0 (by omega) (by omega)]; done))) (lsub_s (by first | rfl | (first | (rw [sNl_y h0 (by omega) (by omega) (by omega) (by omega)]; done) | (rw [sNl_n h0 (by omega) (by omega)]; done))) (lsub_s (by first | rfl | (first | (rw [sNl_y h0 (by omega) (by omega) (by omega) (by omega)]; done) | (rw [sNl_n h0 (by omega) (by omega)]; done))) (lsub_n lsub_0)))) (by rw [sFlyS_s T h0]; first | (rw [if_neg (by omega)]; done) | (rw [if_pos (by omega)]; unfold sGo; first | (rw [if_pos (by omega)]; done) | (rw [if_neg (by omega), if_pos (by omega)]; done) | (rw [if_neg (by omega), if_neg (by omega)]; done)))
            · have hw1 := sWay_r hU (a := sFlyS T i 6 i) (b := sFly (sFlyS T i) i) (by omega) (by omega)
              refine r_aload_n (pc := 57) C 0 dX6_flyAtDusk_57 rfl rfl ?_
              refine r_aload_n (pc := 58) C 0 dX6_flyAtDusk_58 rfl rfl ?_
              refine r_get (pc := 59) C 0 0 6 dX6_flyAtDusk_59 in_X6 rfl rfl (ci := 6) rfl (by decide) tw_87 rfl rfl ?_
              refine r_iload_n (pc := 62) C 2 dX6_flyAtDusk_62 rfl rfl ?_
              refine r_iaload (pc := 63) C 0 7 dX6_flyAtDusk_63 rfl rfl (by decide) (by omega) ?_
              refine r_iload_n (pc := 64) C 3 dX6_flyAtDusk_64 rfl rfl ?_
              refine r_callV (pc := 65) (is := [0]) C YX6_apart dX6_flyAtDusk_65 tw_498 (c_X6_apart l G _ _ _ _ (by first | assumption | omega | exact zand_rng _ _ | exact zor_rng _ _ | exact zxor_rng _ _ | exact BT.r (IT.b (by assumption)) _ _) (by first | assumption | omega | exact zand_rng _ _ | exact zor_rng _ _ | exact zxor_rng _ _ | exact BT.r (IT.b (by assumption)) _ _) (by first | assumption | omega | exact zand_rng _ _ | exact zor_rng _ _ | exact zxor_rng _ _ | exact BT.r (IT.b (by assumption)) _ _)) 0 0 rfl rfl (ci := 6) rfl rfl rfl (by decide) rfl rfl (Nat.le_of_ble_eq_true rfl) ⟨rfl, rfl, by decide, by decide⟩ (jst_i (T_uall ..) ?_)
              refine r_aload_n (pc := 68) C 0 dX6_flyAtDusk_68 rfl rfl ?_
              refine r_get (pc := 69) C 0 0 11 dX6_flyAtDusk_69 in_X6 rfl rfl (ci := 6) rfl (by decide) tw_97 rfl rfl ?_
              refine r_icmp_le (pc := 72) (tgt := 89) C dX6_flyAtDusk_72 (by decide) (by first | omega | exact zand_rng _ _ | exact zor_rng _ _ | exact zxor_rng _ _ | exact BT.r (IT.b (by assumption)) _ _) (by first | omega | exact zand_rng _ _ | exact zor_rng _ _ | exact zxor_rng _ _ | exact BT.r (IT.b (by assumption)) _ _) (fun c72 => ?_) (fun c72 => ?_)
              · refine r_iload_n (pc := 89) C 3 dX6_flyAtDusk_89 rfl rfl ?_
                refine r_bipush (pc := 90) C dX6_flyAtDusk_90 (by decide) ?_
                refine r_icmp_eq (pc := 92) (tgt := 102) C dX6_flyAtDusk_92 (by decide) (by first | omega | exact zand_rng _ _ | exact zor_rng _ _ | exact zxor_rng _ _ | exact BT.r (IT.b (by assumption)) _ _) (by first | omega | exact zand_rng _ _ | exact zor_rng _ _ | exact zxor_rng _ _ | exact BT.r (IT.b (by assumption)) _ _) (fun c92 => absurd c92 (by omega)) (fun c92 => ?_)
                refine r_aload_n (pc := 95) C 0 dX6_flyAtDusk_95 rfl rfl ?_
                refine r_get (pc := 96) C 0 0 6 dX6_flyAtDusk_96 in_X6 rfl rfl (ci := 6) rfl (by decide) tw_87 rfl rfl ?_
                refine r_iload_n (pc := 99) C 2 dX6_flyAtDusk_99 rfl rfl ?_
                refine r_iload_n (pc := 100) C 3 dX6_flyAtDusk_100 rfl rfl ?_
                refine r_iastore (pc := 101) C 0 7 dX6_flyAtDusk_101 rfl rfl (by decide) (by omega) rfl (T_a0_7 ..) ?_
                refine r_iinc (pc := 102) C dX6_flyAtDusk_102 rfl ?_
                refine r_goto (pc := 105) (tgt := 4) C dX6_flyAtDusk_105 (by decide) ?_
                refine Wc.to (ih (i + 1) (by omega) (by omega) (by omega) ) rfl (lsub_s (by first | rfl | (first | (rw [sNl_y h0 (by omega) (by omega) (by omega) (by omega)]; done) | (rw [sNl_n h0 (by omega) (by omega)]; done))) (lsub_s (by first | rfl | (first | (rw [sNl_y h0 (by omega) (by omega) (by omega) (by omega)]; done) | (rw [sNl_n h0 (by omega) (by omega)]; done))) (lsub_s (by first | rfl | (first | (rw [sNl_y h0 (by omega) (by omega) (by omega) (by omega)]; done) | (rw [sNl_n h0 (by omega) (by omega)]; done))) (lsub_n lsub_0)))) (by rw [sFlyS_s T h0]; first | (rw [if_neg (by omega)]; done) | (rw [if_pos (by omega)]; unfold sGo; first | (rw [if_pos (by omega)]; done) | (rw [if_neg (by omega), if_pos (by omega)]; done) | (rw [if_neg (by omega), if_neg (by omega)]; done)))
              · refine r_aload_n (pc := 75) C 0 dX6_flyAtDusk_75 rfl rfl ?_
                refine r_get (pc := 76) C 0 0 6 dX6_flyAtDusk_76 in_X6 rfl rfl (ci := 6) rfl (by decide) tw_87 rfl rfl ?_
                refine r_iload_n (pc := 79) C 2 dX6_flyAtDusk_79 rfl rfl ?_
                refine r_bipush (pc := 80) C dX6_flyAtDusk_80 (by decide) ?_
                refine r_iastore (pc := 82) C 0 7 dX6_flyAtDusk_82 rfl rfl (by decide) (by omega) rfl (T_a0_7 ..) ?_
                refine r_iinc (pc := 83) C dX6_flyAtDusk_83 rfl ?_
                refine r_goto (pc := 86) (tgt := 102) C dX6_flyAtDusk_86 (by decide) ?_
                refine r_iinc (pc := 102) C dX6_flyAtDusk_102 rfl ?_
                refine r_goto (pc := 105) (tgt := 4) C dX6_flyAtDusk_105 (by decide) ?_
                refine Wc.to (ih (i + 1) (by omega) (by omega) (by omega) ) rfl (lsub_s (by first | rfl | (first | (rw [sNl_y h0 (by omega) (by omega) (by omega) (by omega)]; done) | (rw [sNl_n h0 (by omega) (by omega)]; done))) (lsub_s (by first | rfl | (first | (rw [sNl_y h0 (by omega) (by omega) (by omega) (by omega)]; done) | (rw [sNl_n h0 (by omega) (by omega)]; done))) (lsub_s (by first | rfl | (first | (rw [sNl_y h0 (by omega) (by omega) (by omega) (by omega)]; done) | (rw [sNl_n h0 (by omega) (by omega)]; done))) (lsub_n lsub_0)))) (by rw [sFlyS_s T h0]; first | (rw [if_neg (by omega)]; done) | (rw [if_pos (by omega)]; unfold sGo; first | (rw [if_pos (by omega)]; done) | (rw [if_neg (by omega), if_pos (by omega)]; done) | (rw [if_neg (by omega), if_neg (by omega)]; done)))
          · skip
            refine r_aload_n (pc := 23) C 0 dX6_flyAtDusk_23 rfl rfl ?_
            refine r_iload_n (pc := 24) C 2 dX6_flyAtDusk_24 rfl rfl ?_
            refine r_callV (pc := 25) (is := [0]) C YX6_kindOf dX6_flyAtDusk_25 tw_427 (c_X6_kindOf4 l G _ _ _ (by first | assumption | omega | exact zand_rng _ _ | exact zor_rng _ _ | exact zxor_rng _ _ | exact BT.r (IT.b (by assumption)) _ _) (by first | assumption | omega | exact zand_rng _ _ | exact zor_rng _ _ | exact zxor_rng _ _ | exact BT.r (IT.b (by assumption)) _ _) (by first | assumption | omega | exact zand_rng _ _ | exact zor_rng _ _ | exact zxor_rng _ _ | exact BT.r (IT.b (by assumption)) _ _)) 0 0 rfl rfl (ci := 6) rfl rfl rfl (by decide) rfl rfl (Nat.le_of_ble_eq_true rfl) ⟨rfl, rfl, by decide, by decide⟩ (jst_a (T_uall ..) ?_)
            refine r_aload_n (pc := 28) C 0 dX6_flyAtDusk_28 rfl rfl ?_
            refine r_aload_n (pc := 29) C 0 dX6_flyAtDusk_29 rfl rfl ?_
            refine r_get (pc := 30) C 0 0 6 dX6_flyAtDusk_30 in_X6 rfl rfl (ci := 6) rfl (by decide) tw_87 rfl rfl ?_
            refine r_iload_n (pc := 33) C 2 dX6_flyAtDusk_33 rfl rfl ?_
            refine r_iaload (pc := 34) C 0 7 dX6_flyAtDusk_34 rfl rfl (by decide) (by omega) ?_
            refine r_aload_n (pc := 35) C 0 dX6_flyAtDusk_35 rfl rfl ?_
            refine r_get (pc := 36) C 0 0 4 dX6_flyAtDusk_36 in_X6 rfl rfl (ci := 6) rfl (by decide) tw_83 rfl rfl ?_
            refine r_iload_n (pc := 39) C 2 dX6_flyAtDusk_39 rfl rfl ?_
            refine r_iaload (pc := 40) C 0 5 dX6_flyAtDusk_40 rfl rfl (by decide) (by omega) ?_
            refine r_aload_n (pc := 41) C 0 dX6_flyAtDusk_41 rfl rfl ?_
            refine r_get (pc := 42) C 0 0 5 dX6_flyAtDusk_42 in_X6 rfl rfl (ci := 6) rfl (by decide) tw_85 rfl rfl ?_
            refine r_iload_n (pc := 45) C 2 dX6_flyAtDusk_45 rfl rfl ?_
            refine r_iaload (pc := 46) C 0 6 dX6_flyAtDusk_46 rfl rfl (by decide) (by omega) ?_
            refine r_callU (pc := 47) (is := []) (C0 := RX0) (x := yX1_aim) C YBX1_aim dX6_flyAtDusk_47 tw_482 tw_485 tw_483 tw_511 (by decide +kernel) ⟨by decide +kernel, by decide +kernel⟩ tw_483 tw_486 (c_X1_aim l G _ _ _ _ _) 0 13 rfl rfl (ci := 0) rfl rfl (by decide) rfl rfl (Nat.le_of_ble_eq_true rfl) ⟨rfl, rfl, by decide, by decide⟩ (jst_i (ups_nil _) ?_)
            have hfl : (sFlyS T i) 4 i = sFly (sFlyS T i) i := by unfold sFly sAim; (repeat' split) <;> omega
            refine Wc.eq (st' := [.int (iI (sFly (sFlyS T i) i))]) ?_ rfl rfl (by rw [hfl]) rfl
            refine r_istore_n (pc := 50) C 3 dX6_flyAtDusk_50 rfl (Nat.le_of_ble_eq_true rfl) ?_
            refine r_iload_n (pc := 51) C 3 dX6_flyAtDusk_51 rfl rfl ?_
            refine r_bipush (pc := 52) C dX6_flyAtDusk_52 (by decide) ?_
            refine r_icmp_eq (pc := 54) (tgt := 89) C dX6_flyAtDusk_54 (by decide) (by first | omega | exact zand_rng _ _ | exact zor_rng _ _ | exact zxor_rng _ _ | exact BT.r (IT.b (by assumption)) _ _) (by first | omega | exact zand_rng _ _ | exact zor_rng _ _ | exact zxor_rng _ _ | exact BT.r (IT.b (by assumption)) _ _) (fun c54 => ?_) (fun c54 => ?_)
            · refine r_iload_n (pc := 89) C 3 dX6_flyAtDusk_89 rfl rfl ?_
              refine r_bipush (pc := 90) C dX6_flyAtDusk_90 (by decide) ?_
              refine r_icmp_eq (pc := 92) (tgt := 102) C dX6_flyAtDusk_92 (by decide) (by first | omega | exact zand_rng _ _ | exact zor_rng _ _ | exact zxor_rng _ _ | exact BT.r (IT.b (by assumption)) _ _) (by first | omega | exact zand_rng _ _ | exact zor_rng _ _ | exact zxor_rng _ _ | exact BT.r (IT.b (by assumption)) _ _) (fun c92 => ?_) (fun c92 => absurd c92 (by omega))
              refine r_iinc (pc := 102) C dX6_flyAtDusk_102 rfl ?_
              refine r_goto (pc := 105) (tgt := 4) C dX6_flyAtDusk_105 (by decide) ?_
              refine Wc.to (ih (i + 1) (by omega) (by omega) (by omega) ) rfl (lsub_s (by first | rfl | (first | (rw [sNl_y h0 (by omega) (by omega) (by omega) (by omega)]; done) | (rw [sNl_n h0 (by omega) (by omega)]; done))) (lsub_s (by first | rfl | (first | (rw [sNl_y h0 (by omega) (by omega) (by omega) (by omega)]; done) | (rw [sNl_n h0 (by omega) (by omega)]; done))) (lsub_s (by first | rfl | (first | (rw [sNl_y h0 (by omega) (by omega) (by omega) (by omega)]; done) | (rw [sNl_n h0 (by omega) (by omega)]; done))) (lsub_n lsub_0)))) (by rw [sFlyS_s T h0]; first | (rw [if_neg (by omega)]; done) | (rw [if_pos (by omega)]; unfold sGo; first | (rw [if_pos (by omega)]; done) | (rw [if_neg (by omega), if_pos (by omega)]; done) | (rw [if_neg (by omega), if_neg (by omega)]; done)))
            · have hw1 := sWay_r hU (a := sFlyS T i 6 i) (b := sFly (sFlyS T i) i) (by omega) (by omega)
              refine r_aload_n (pc := 57) C 0 dX6_flyAtDusk_57 rfl rfl ?_
              refine r_aload_n (pc := 58) C 0 dX6_flyAtDusk_58 rfl rfl ?_
              refine r_get (pc := 59) C 0 0 6 dX6_flyAtDusk_59 in_X6 rfl rfl (ci := 6) rfl (by decide) tw_87 rfl rfl ?_
              refine r_iload_n (pc := 62) C 2 dX6_flyAtDusk_62 rfl rfl ?_
              refine r_iaload (pc := 63) C 0 7 dX6_flyAtDusk_63 rfl rfl (by decide) (by omega) ?_
              refine r_iload_n (pc := 64) C 3 dX6_flyAtDusk_64 rfl rfl ?_
              refine r_callV (pc := 65) (is := [0]) C YX6_apart dX6_flyAtDusk_65 tw_498 (c_X6_apart l G _ _ _ _ (by first | assumption | omega | exact zand_rng _ _ | exact zor_rng _ _ | exact zxor_rng _ _ | exact BT.r (IT.b (by assumption)) _ _) (by first | assumption | omega | exact zand_rng _ _ | exact zor_rng _ _ | exact zxor_rng _ _ | exact BT.r (IT.b (by assumption)) _ _) (by first | assumption | omega | exact zand_rng _ _ | exact zor_rng _ _ | exact zxor_rng _ _ | exact BT.r (IT.b (by assumption)) _ _)) 0 0 rfl rfl (ci := 6) rfl rfl rfl (by decide) rfl rfl (Nat.le_of_ble_eq_true rfl) ⟨rfl, rfl, by decide, by decide⟩ (jst_i (T_uall ..) ?_)
              refine r_aload_n (pc := 68) C 0 dX6_flyAtDusk_68 rfl rfl ?_
              refine r_get (pc := 69) C 0 0 11 dX6_flyAtDusk_69 in_X6 rfl rfl (ci := 6) rfl (by decide) tw_97 rfl rfl ?_
              refine r_icmp_le (pc := 72) (tgt := 89) C dX6_flyAtDusk_72 (by decide) (by first | omega | exact zand_rng _ _ | exact zor_rng _ _ | exact zxor_rng _ _ | exact BT.r (IT.b (by assumption)) _ _) (by first | omega | exact zand_rng _ _ | exact zor_rng _ _ | exact zxor_rng _ _ | exact BT.r (IT.b (by assumption)) _ _) (fun c72 => ?_) (fun c72 => ?_)
              · refine r_iload_n (pc := 89) C 3 dX6_flyAtDusk_89 rfl rfl ?_
                refine r_bipush (pc := 90) C dX6_flyAtDusk_90 (by decide) ?_
                refine r_icmp_eq (pc := 92) (tgt := 102) C dX6_flyAtDusk_92 (by decide) (by first | omega | exact zand_rng _ _ | exact zor_rng _ _ | exact zxor_rng _ _ | exact BT.r (IT.b (by assumption)) _ _) (by first | omega | exact zand_rng _ _ | exact zor_rng _ _ | exact zxor_rng _ _ | exact BT.r (IT.b (by assumption)) _ _) (fun c92 => absurd c92 (by omega)) (fun c92 => ?_)
                refine r_aload_n (pc := 95) C 0 dX6_flyAtDusk_95 rfl rfl ?_
                refine r_get (pc := 96) C 0 0 6 dX6_flyAtDusk_96 in_X6 rfl rfl (ci := 6) rfl (by decide) tw_87 rfl rfl ?_
                refine r_iload_n (pc := 99) C 2 dX6_flyAtDusk_99 rfl rfl ?_
                refine r_iload_n (pc := 100) C 3 dX6_flyAtDusk_100 rfl rfl ?_
                refine r_iastore (pc := 101) C 0 7 dX6_flyAtDusk_101 rfl rfl (by decide) (by omega) rfl (T_a0_7 ..) ?_
                refine r_iinc (pc := 102) C dX6_flyAtDusk_102 rfl ?_
                refine r_goto (pc := 105) (tgt := 4) C dX6_flyAtDusk_105 (by decide) ?_
                refine Wc.to (ih (i + 1) (by omega) (by omega) (by omega) ) rfl (lsub_s (by first | rfl | (first | (rw [sNl_y h0 (by omega) (by omega) (by omega) (by omega)]; done) | (rw [sNl_n h0 (by omega) (by omega)]; done))) (lsub_s (by first | rfl | (first | (rw [sNl_y h0 (by omega) (by omega) (by omega) (by omega)]; done) | (rw [sNl_n h0 (by omega) (by omega)]; done))) (lsub_s (by first | rfl | (first | (rw [sNl_y h0 (by omega) (by omega) (by omega) (by omega)]; done) | (rw [sNl_n h0 (by omega) (by omega)]; done))) (lsub_n lsub_0)))) (by rw [sFlyS_s T h0]; first | (rw [if_neg (by omega)]; done) | (rw [if_pos (by omega)]; unfold sGo; first | (rw [if_pos (by omega)]; done) | (rw [if_neg (by omega), if_pos (by omega)]; done) | (rw [if_neg (by omega), if_neg (by omega)]; done)))
              · refine r_aload_n (pc := 75) C 0 dX6_flyAtDusk_75 rfl rfl ?_
                refine r_get (pc := 76) C 0 0 6 dX6_flyAtDusk_76 in_X6 rfl rfl (ci := 6) rfl (by decide) tw_87 rfl rfl ?_
                refine r_iload_n (pc := 79) C 2 dX6_flyAtDusk_79 rfl rfl ?_
                refine r_bipush (pc := 80) C dX6_flyAtDusk_80 (by decide) ?_
                refine r_iastore (pc := 82) C 0 7 dX6_flyAtDusk_82 rfl rfl (by decide) (by omega) rfl (T_a0_7 ..) ?_
                refine r_iinc (pc := 83) C dX6_flyAtDusk_83 rfl ?_
                refine r_goto (pc := 86) (tgt := 102) C dX6_flyAtDusk_86 (by decide) ?_
                refine r_iinc (pc := 102) C dX6_flyAtDusk_102 rfl ?_
                refine r_goto (pc := 105) (tgt := 4) C dX6_flyAtDusk_105 (by decide) ?_
                refine Wc.to (ih (i + 1) (by omega) (by omega) (by omega) ) rfl (lsub_s (by first | rfl | (first | (rw [sNl_y h0 (by omega) (by omega) (by omega) (by omega)]; done) | (rw [sNl_n h0 (by omega) (by omega)]; done))) (lsub_s (by first | rfl | (first | (rw [sNl_y h0 (by omega) (by omega) (by omega) (by omega)]; done) | (rw [sNl_n h0 (by omega) (by omega)]; done))) (lsub_s (by first | rfl | (first | (rw [sNl_y h0 (by omega) (by omega) (by omega) (by omega)]; done) | (rw [sNl_n h0 (by omega) (by omega)]; done))) (lsub_n lsub_0)))) (by rw [sFlyS_s T h0]; first | (rw [if_neg (by omega)]; done) | (rw [if_pos (by omega)]; unfold sGo; first | (rw [if_pos (by omega)]; done) | (rw [if_neg (by omega), if_pos (by omega)]; done) | (rw [if_neg (by omega), if_neg (by omega)]; done)))
          · skip
            refine r_aload_n (pc := 23) C 0 dX6_flyAtDusk_23 rfl rfl ?_
            refine r_iload_n (pc := 24) C 2 dX6_flyAtDusk_24 rfl rfl ?_
            refine r_callV (pc := 25) (is := [0]) C YX6_kindOf dX6_flyAtDusk_25 tw_427 (c_X6_kindOf5 l G _ _ _ (by first | assumption | omega | exact zand_rng _ _ | exact zor_rng _ _ | exact zxor_rng _ _ | exact BT.r (IT.b (by assumption)) _ _) (by first | assumption | omega | exact zand_rng _ _ | exact zor_rng _ _ | exact zxor_rng _ _ | exact BT.r (IT.b (by assumption)) _ _) (by first | assumption | omega | exact zand_rng _ _ | exact zor_rng _ _ | exact zxor_rng _ _ | exact BT.r (IT.b (by assumption)) _ _)) 0 0 rfl rfl (ci := 6) rfl rfl rfl (by decide) rfl rfl (Nat.le_of_ble_eq_true rfl) ⟨rfl, rfl, by decide, by decide⟩ (jst_a (T_uall ..) ?_)
            refine r_aload_n (pc := 28) C 0 dX6_flyAtDusk_28 rfl rfl ?_
            refine r_aload_n (pc := 29) C 0 dX6_flyAtDusk_29 rfl rfl ?_
            refine r_get (pc := 30) C 0 0 6 dX6_flyAtDusk_30 in_X6 rfl rfl (ci := 6) rfl (by decide) tw_87 rfl rfl ?_
            refine r_iload_n (pc := 33) C 2 dX6_flyAtDusk_33 rfl rfl ?_
            refine r_iaload (pc := 34) C 0 7 dX6_flyAtDusk_34 rfl rfl (by decide) (by omega) ?_
            refine r_aload_n (pc := 35) C 0 dX6_flyAtDusk_35 rfl rfl ?_
            refine r_get (pc := 36) C 0 0 4 dX6_flyAtDusk_36 in_X6 rfl rfl (ci := 6) rfl (by decide) tw_83 rfl rfl ?_
            refine r_iload_n (pc := 39) C 2 dX6_flyAtDusk_39 rfl rfl ?_
            refine r_iaload (pc := 40) C 0 5 dX6_flyAtDusk_40 rfl rfl (by decide) (by omega) ?_
            refine r_aload_n (pc := 41) C 0 dX6_flyAtDusk_41 rfl rfl ?_
            refine r_get (pc := 42) C 0 0 5 dX6_flyAtDusk_42 in_X6 rfl rfl (ci := 6) rfl (by decide) tw_85 rfl rfl ?_
            refine r_iload_n (pc := 45) C 2 dX6_flyAtDusk_45 rfl rfl ?_
            refine r_iaload (pc := 46) C 0 6 dX6_flyAtDusk_46 rfl rfl (by decide) (by omega) ?_
            refine r_callU (pc := 47) (is := [0]) (C0 := RX4) (x := yX1_aim) C YBX4_aim dX6_flyAtDusk_47 tw_482 tw_485 tw_483 tw_511 (by decide +kernel) ⟨by decide +kernel, by decide +kernel⟩ tw_503 tw_502 (c_X4_aim l G _ _ _ _ _ (by first | assumption | omega | exact zand_rng _ _ | exact zor_rng _ _ | exact zxor_rng _ _ | exact BT.r (IT.b (by assumption)) _ _) (by first | assumption | omega | exact zand_rng _ _ | exact zor_rng _ _ | exact zxor_rng _ _ | exact BT.r (IT.b (by assumption)) _ _) (by first | assumption | omega | exact zand_rng _ _ | exact zor_rng _ _ | exact zxor_rng _ _ | exact BT.r (IT.b (by assumption)) _ _) (by first | assumption | omega | exact zand_rng _ _ | exact zor_rng _ _ | exact zxor_rng _ _ | exact BT.r (IT.b (by assumption)) _ _)) 0 14 rfl rfl (ci := 4) rfl rfl (by decide) rfl rfl (Nat.le_of_ble_eq_true rfl) ⟨rfl, rfl, by decide, by decide⟩ (jst_i (T_uall ..) ?_)
            have hfl : (if sWay (sFlyS T i) ((sFlyS T i) 6 i) ((sFlyS T i) 4 i) < 3 then 9 else if sWay (sFlyS T i) ((sFlyS T i) 6 i) ((sFlyS T i) 4 i) ≤ 2 * (sFlyS T i) 5 i then (sFlyS T i) 4 i else 9) = sFly (sFlyS T i) i := by unfold sFly sAim; (repeat' split) <;> omega
            refine Wc.eq (st' := [.int (iI (sFly (sFlyS T i) i))]) ?_ rfl rfl (by rw [hfl]) rfl
            refine r_istore_n (pc := 50) C 3 dX6_flyAtDusk_50 rfl (Nat.le_of_ble_eq_true rfl) ?_
            refine r_iload_n (pc := 51) C 3 dX6_flyAtDusk_51 rfl rfl ?_
            refine r_bipush (pc := 52) C dX6_flyAtDusk_52 (by decide) ?_
            refine r_icmp_eq (pc := 54) (tgt := 89) C dX6_flyAtDusk_54 (by decide) (by first | omega | exact zand_rng _ _ | exact zor_rng _ _ | exact zxor_rng _ _ | exact BT.r (IT.b (by assumption)) _ _) (by first | omega | exact zand_rng _ _ | exact zor_rng _ _ | exact zxor_rng _ _ | exact BT.r (IT.b (by assumption)) _ _) (fun c54 => ?_) (fun c54 => ?_)
            · refine r_iload_n (pc := 89) C 3 dX6_flyAtDusk_89 rfl rfl ?_
              refine r_bipush (pc := 90) C dX6_flyAtDusk_90 (by decide) ?_
              refine r_icmp_eq (pc := 92) (tgt := 102) C dX6_flyAtDusk_92 (by decide) (by first | omega | exact zand_rng _ _ | exact zor_rng _ _ | exact zxor_rng _ _ | exact BT.r (IT.b (by assumption)) _ _) (by first | omega | exact zand_rng _ _ | exact zor_rng _ _ | exact zxor_rng _ _ | exact BT.r (IT.b (by assumption)) _ _) (fun c92 => ?_) (fun c92 => absurd c92 (by omega))
              refine r_iinc (pc := 102) C dX6_flyAtDusk_102 rfl ?_
              refine r_goto (pc := 105) (tgt := 4) C dX6_flyAtDusk_105 (by decide) ?_
              refine Wc.to (ih (i + 1) (by omega) (by omega) (by omega) ) rfl (lsub_s (by first | rfl | (first | (rw [sNl_y h0 (by omega) (by omega) (by omega) (by omega)]; done) | (rw [sNl_n h0 (by omega) (by omega)]; done))) (lsub_s (by first | rfl | (first | (rw [sNl_y h0 (by omega) (by omega) (by omega) (by omega)]; done) | (rw [sNl_n h0 (by omega) (by omega)]; done))) (lsub_s (by first | rfl | (first | (rw [sNl_y h0 (by omega) (by omega) (by omega) (by omega)]; done) | (rw [sNl_n h0 (by omega) (by omega)]; done))) (lsub_n lsub_0)))) (by rw [sFlyS_s T h0]; first | (rw [if_neg (by omega)]; done) | (rw [if_pos (by omega)]; unfold sGo; first | (rw [if_pos (by omega)]; done) | (rw [if_neg (by omega), if_pos (by omega)]; done) | (rw [if_neg (by omega), if_neg (by omega)]; done)))
            · have hw1 := sWay_r hU (a := sFlyS T i 6 i) (b := sFly (sFlyS T i) i) (by omega) (by omega)
              refine r_aload_n (pc := 57) C 0 dX6_flyAtDusk_57 rfl rfl ?_
              refine r_aload_n (pc := 58) C 0 dX6_flyAtDusk_58 rfl rfl ?_
              refine r_get (pc := 59) C 0 0 6 dX6_flyAtDusk_59 in_X6 rfl rfl (ci := 6) rfl (by decide) tw_87 rfl rfl ?_
              refine r_iload_n (pc := 62) C 2 dX6_flyAtDusk_62 rfl rfl ?_
              refine r_iaload (pc := 63) C 0 7 dX6_flyAtDusk_63 rfl rfl (by decide) (by omega) ?_
              refine r_iload_n (pc := 64) C 3 dX6_flyAtDusk_64 rfl rfl ?_
              refine r_callV (pc := 65) (is := [0]) C YX6_apart dX6_flyAtDusk_65 tw_498 (c_X6_apart l G _ _ _ _ (by first | assumption | omega | exact zand_rng _ _ | exact zor_rng _ _ | exact zxor_rng _ _ | exact BT.r (IT.b (by assumption)) _ _) (by first | assumption | omega | exact zand_rng _ _ | exact zor_rng _ _ | exact zxor_rng _ _ | exact BT.r (IT.b (by assumption)) _ _) (by first | assumption | omega | exact zand_rng _ _ | exact zor_rng _ _ | exact zxor_rng _ _ | exact BT.r (IT.b (by assumption)) _ _)) 0 0 rfl rfl (ci := 6) rfl rfl rfl (by decide) rfl rfl (Nat.le_of_ble_eq_true rfl) ⟨rfl, rfl, by decide, by decide⟩ (jst_i (T_uall ..) ?_)
              refine r_aload_n (pc := 68) C 0 dX6_flyAtDusk_68 rfl rfl ?_
              refine r_get (pc := 69) C 0 0 11 dX6_flyAtDusk_69 in_X6 rfl rfl (ci := 6) rfl (by decide) tw_97 rfl rfl ?_
              refine r_icmp_le (pc := 72) (tgt := 89) C dX6_flyAtDusk_72 (by decide) (by first | omega | exact zand_rng _ _ | exact zor_rng _ _ | exact zxor_rng _ _ | exact BT.r (IT.b (by assumption)) _ _) (by first | omega | exact zand_rng _ _ | exact zor_rng _ _ | exact zxor_rng _ _ | exact BT.r (IT.b (by assumption)) _ _) (fun c72 => ?_) (fun c72 => ?_)
              · refine r_iload_n (pc := 89) C 3 dX6_flyAtDusk_89 rfl rfl ?_
                refine r_bipush (pc := 90) C dX6_flyAtDusk_90 (by decide) ?_
                refine r_icmp_eq (pc := 92) (tgt := 102) C dX6_flyAtDusk_92 (by decide) (by first | omega | exact zand_rng _ _ | exact zor_rng _ _ | exact zxor_rng _ _ | exact BT.r (IT.b (by assumption)) _ _) (by first | omega | exact zand_rng _ _ | exact zor_rng _ _ | exact zxor_rng _ _ | exact BT.r (IT.b (by assumption)) _ _) (fun c92 => absurd c92 (by omega)) (fun c92 => ?_)
                refine r_aload_n (pc := 95) C 0 dX6_flyAtDusk_95 rfl rfl ?_
                refine r_get (pc := 96) C 0 0 6 dX6_flyAtDusk_96 in_X6 rfl rfl (ci := 6) rfl (by decide) tw_87 rfl rfl ?_
                refine r_iload_n (pc := 99) C 2 dX6_flyAtDusk_99 rfl rfl ?_
                refine r_iload_n (pc := 100) C 3 dX6_flyAtDusk_100 rfl rfl ?_
                refine r_iastore (pc := 101) C 0 7 dX6_flyAtDusk_101 rfl rfl (by decide) (by omega) rfl (T_a0_7 ..) ?_
                refine r_iinc (pc := 102) C dX6_flyAtDusk_102 rfl ?_
                refine r_goto (pc := 105) (tgt := 4) C dX6_flyAtDusk_105 (by decide) ?_
                refine Wc.to (ih (i + 1) (by omega) (by omega) (by omega) ) rfl (lsub_s (by first | rfl | (first | (rw [sNl_y h0 (by omega) (by omega) (by omega) (by omega)]; done) | (rw [sNl_n h0 (by omega) (by omega)]; done))) (lsub_s (by first | rfl | (first | (rw [sNl_y h0 (by omega) (by omega) (by omega) (by omega)]; done) | (rw [sNl_n h0 (by omega) (by omega)]; done))) (lsub_s (by first | rfl | (first | (rw [sNl_y h0 (by omega) (by omega) (by omega) (by omega)]; done) | (rw [sNl_n h0 (by omega) (by omega)]; done))) (lsub_n lsub_0)))) (by rw [sFlyS_s T h0]; first | (rw [if_neg (by omega)]; done) | (rw [if_pos (by omega)]; unfold sGo; first | (rw [if_pos (by omega)]; done) | (rw [if_neg (by omega), if_pos (by omega)]; done) | (rw [if_neg (by omega), if_neg (by omega)]; done)))
              · refine r_aload_n (pc := 75) C 0 dX6_flyAtDusk_75 rfl rfl ?_
                refine r_get (pc := 76) C 0 0 6 dX6_flyAtDusk_76 in_X6 rfl rfl (ci := 6) rfl (by decide) tw_87 rfl rfl ?_
                refine r_iload_n (pc := 79) C 2 dX6_flyAtDusk_79 rfl rfl ?_
                refine r_bipush (pc := 80) C dX6_flyAtDusk_80 (by decide) ?_
                refine r_iastore (pc := 82) C 0 7 dX6_flyAtDusk_82 rfl rfl (by decide) (by omega) rfl (T_a0_7 ..) ?_
                refine r_iinc (pc := 83) C dX6_flyAtDusk_83 rfl ?_
                refine r_goto (pc := 86) (tgt := 102) C dX6_flyAtDusk_86 (by decide) ?_
                refine r_iinc (pc := 102) C dX6_flyAtDusk_102 rfl ?_
                refine r_goto (pc := 105) (tgt := 4) C dX6_flyAtDusk_105 (by decide) ?_
                refine Wc.to (ih (i + 1) (by omega) (by omega) (by omega) ) rfl (lsub_s (by first | rfl | (first | (rw [sNl_y h0 (by omega) (by omega) (by omega) (by omega)]; done) | (rw [sNl_n h0 (by omega) (by omega)]; done))) (lsub_s (by first | rfl | (first | (rw [sNl_y h0 (by omega) (by omega) (by omega) (by omega)]; done) | (rw [sNl_n h0 (by omega) (by omega)]; done))) (lsub_s (by first | rfl | (first | (rw [sNl_y h0 (by omega) (by omega) (by omega) (by omega)]; done) | (rw [sNl_n h0 (by omega) (by omega)]; done))) (lsub_n lsub_0)))) (by rw [sFlyS_s T h0]; first | (rw [if_neg (by omega)]; done) | (rw [if_pos (by omega)]; unfold sGo; first | (rw [if_pos (by omega)]; done) | (rw [if_neg (by omega), if_pos (by omega)]; done) | (rw [if_neg (by omega), if_neg (by omega)]; done)))
  refine Wc.to (L4 ((T 0 1 - (0)).toNat + 1) (0) (by omega) (by omega) (by omega) ) rfl (lsub_s (by first | rfl | (rw [sNl_0])) (lsub_s (by first | rfl | (rw [sNl_0])) (lsub_s (by first | rfl | (rw [sNl_0])) (lsub_n lsub_0)))) (by rfl)

set_option maxRecDepth 100000 in
set_option maxHeartbeats 4000000 in
theorem c_X6_layEggs (l : Launch) (G : GT) (h : Nat → Nat) (T : Tn) (hI : IT T) : Cn l yX6_layEggs cX6_layEggs 3 none ({ frames := 2, cells := 0, slots := 0, locals := 44 }) G [.ref (h 0)] (wT G h T) (jst none (wT G h (sEggS T (T 0 1)))) := by
  refine Cn_in RX6 [some (.ref (h 0)), none, none] (by decide +kernel) rfl rfl rfl (Nat.le_of_ble_eq_true rfl) (fun K C hQ => ?_)
  have hBB := hI.b
  have hLL := hI.L
  have hDD := hI.D
  refine r_aload_n (pc := 0) C 0 dX6_layEggs_0 rfl rfl ?_
  refine r_get (pc := 1) C 0 0 9 dX6_layEggs_1 in_X6 rfl rfl (ci := 6) rfl (by decide) tw_93 rfl rfl ?_
  refine r_istore_n (pc := 4) C 1 dX6_layEggs_4 rfl (Nat.le_of_ble_eq_true rfl) ?_
  refine r_iconst (pc := 5) C dX6_layEggs_5 ?_
  refine r_istore_n (pc := 6) C 2 dX6_layEggs_6 rfl (Nat.le_of_ble_eq_true rfl) ?_
  have L7 : ∀ (n : Nat) (i : Int), 0 ≤ i → i ≤ T 0 1 → T 0 1 < i + n → Wc K G 7 [some (.ref (h 0)), some (.int (iI (T 0 1))), some (.int (iI i))] [] (wT G h (sEggS T i)) := by
    intro n
    induction n with
    | zero =>
      intro i h0 h1 hn; omega
    | succ n ih =>
      intro i h0 h1 hn 
      obtain ⟨hU, hU1, hU3, hU4, -⟩ := sEggS_p hI h0 h1
      refine r_iload_n (pc := 7) C 2 dX6_layEggs_7 rfl rfl ?_
      refine r_iload_n (pc := 8) C 1 dX6_layEggs_8 rfl rfl ?_
      refine r_icmp_ge (pc := 9) (tgt := 56) C dX6_layEggs_9 (by decide) (by first | omega | exact zand_rng _ _ | exact zor_rng _ _ | exact zxor_rng _ _ | exact BT.r (IT.b (by assumption)) _ _) (by first | omega | exact zand_rng _ _ | exact zor_rng _ _ | exact zxor_rng _ _ | exact BT.r (IT.b (by assumption)) _ _) (fun c9 => ?_) (fun c9 => ?_)
      · obtain rfl : i = T 0 1 := by omega
        exact r_vret (pc := 56) C hQ dX6_layEggs_56 rfl (jst_rv rfl)
      · have hdd := hU.d h0 (by omega)
        refine r_aload_n (pc := 12) C 0 dX6_layEggs_12 rfl rfl ?_
        refine r_iload_n (pc := 13) C 2 dX6_layEggs_13 rfl rfl ?_
        refine r_callV (pc := 14) (is := [0]) C YX6_isHome dX6_layEggs_14 tw_564 (c_X6_isHome l G _ _ _ (by first | assumption | omega | exact zand_rng _ _ | exact zor_rng _ _ | exact zxor_rng _ _ | exact BT.r (IT.b (by assumption)) _ _) (by first | assumption | omega | exact zand_rng _ _ | exact zor_rng _ _ | exact zxor_rng _ _ | exact BT.r (IT.b (by assumption)) _ _)) 0 0 rfl rfl (ci := 6) rfl rfl rfl (by decide) rfl rfl (Nat.le_of_ble_eq_true rfl) ⟨rfl, rfl, by decide, by decide⟩ (jst_i (T_uall ..) ?_)
        refine r_ifb_eq (pc := 17) (tgt := 50) C dX6_layEggs_17 (by decide) (fun c17 => ?_) (fun c17 => ?_)
        · refine r_iinc (pc := 50) C dX6_layEggs_50 rfl ?_
          refine r_goto (pc := 53) (tgt := 7) C dX6_layEggs_53 (by decide) ?_
          refine Wc.to (ih (i + 1) (by omega) (by omega) (by omega) ) rfl (lsub_s rfl (lsub_s rfl (lsub_s rfl lsub_0))) (by rw [sEggS_s T h0]; first | (rw [if_neg (by omega)]; done) | (rcases Int.lt_or_le (sEggS T i 0 1) 8 with e8 | e8 <;> first | (rw [if_pos (by omega), if_pos (by omega)]; done) | (rw [if_neg (by omega), if_neg (by omega)]; done)))
        · have hfk : sEggS T i 3 i = 0 ∨ sEggS T i 3 i = 1 ∨ sEggS T i 3 i = 2 ∨ sEggS T i 3 i = 3 ∨ sEggS T i 3 i = 4 ∨ sEggS T i 3 i = 5 := by omega
          rcases hfk with kk0 | kk1 | kk2 | kk3 | kk4 | kk5
          · skip
            refine r_aload_n (pc := 20) C 0 dX6_layEggs_20 rfl rfl ?_
            refine r_iload_n (pc := 21) C 2 dX6_layEggs_21 rfl rfl ?_
            refine r_callV (pc := 22) (is := [0]) C YX6_kindOf dX6_layEggs_22 tw_427 (c_X6_kindOf0 l G _ _ _ (by first | assumption | omega | exact zand_rng _ _ | exact zor_rng _ _ | exact zxor_rng _ _ | exact BT.r (IT.b (by assumption)) _ _) (by first | assumption | omega | exact zand_rng _ _ | exact zor_rng _ _ | exact zxor_rng _ _ | exact BT.r (IT.b (by assumption)) _ _) (by first | assumption | omega | exact zand_rng _ _ | exact zor_rng _ _ | exact zxor_rng _ _ | exact BT.r (IT.b (by assumption)) _ _)) 0 0 rfl rfl (ci := 6) rfl rfl rfl (by decide) rfl rfl (Nat.le_of_ble_eq_true rfl) ⟨rfl, rfl, by decide, by decide⟩ (jst_a (T_uall ..) ?_)
            refine r_aload_n (pc := 25) C 0 dX6_layEggs_25 rfl rfl ?_
            refine r_get (pc := 26) C 0 0 5 dX6_layEggs_26 in_X6 rfl rfl (ci := 6) rfl (by decide) tw_85 rfl rfl ?_
            refine r_iload_n (pc := 29) C 2 dX6_layEggs_29 rfl rfl ?_
            refine r_iaload (pc := 30) C 0 6 dX6_layEggs_30 rfl rfl (by decide) (by omega) ?_
            refine r_callV (pc := 31) (is := []) C YX1_lays dX6_layEggs_31 tw_568 (c_X1_lays l G _ _) 0 9 rfl rfl (ci := 1) rfl rfl rfl (by decide) rfl rfl (Nat.le_of_ble_eq_true rfl) ⟨rfl, rfl, by decide, by decide⟩ (jst_i (ups_nil _) ?_)
            refine r_ifb_eq (pc := 34) (tgt := 50) C dX6_layEggs_34 (by decide) (fun c34 => ?_) (fun c34 => absurd c34 (by omega))
            refine r_iinc (pc := 50) C dX6_layEggs_50 rfl ?_
            refine r_goto (pc := 53) (tgt := 7) C dX6_layEggs_53 (by decide) ?_
            refine Wc.to (ih (i + 1) (by omega) (by omega) (by omega) ) rfl (lsub_s rfl (lsub_s rfl (lsub_s rfl lsub_0))) (by rw [sEggS_s T h0]; first | (rw [if_neg (by omega)]; done) | (rcases Int.lt_or_le (sEggS T i 0 1) 8 with e8 | e8 <;> first | (rw [if_pos (by omega), if_pos (by omega)]; done) | (rw [if_neg (by omega), if_neg (by omega)]; done)))
          · skip
            refine r_aload_n (pc := 20) C 0 dX6_layEggs_20 rfl rfl ?_
            refine r_iload_n (pc := 21) C 2 dX6_layEggs_21 rfl rfl ?_
            refine r_callV (pc := 22) (is := [0]) C YX6_kindOf dX6_layEggs_22 tw_427 (c_X6_kindOf1 l G _ _ _ (by first | assumption | omega | exact zand_rng _ _ | exact zor_rng _ _ | exact zxor_rng _ _ | exact BT.r (IT.b (by assumption)) _ _) (by first | assumption | omega | exact zand_rng _ _ | exact zor_rng _ _ | exact zxor_rng _ _ | exact BT.r (IT.b (by assumption)) _ _) (by first | assumption | omega | exact zand_rng _ _ | exact zor_rng _ _ | exact zxor_rng _ _ | exact BT.r (IT.b (by assumption)) _ _)) 0 0 rfl rfl (ci := 6) rfl rfl rfl (by decide) rfl rfl (Nat.le_of_ble_eq_true rfl) ⟨rfl, rfl, by decide, by decide⟩ (jst_a (T_uall ..) ?_)
            refine r_aload_n (pc := 25) C 0 dX6_layEggs_25 rfl rfl ?_
            refine r_get (pc := 26) C 0 0 5 dX6_layEggs_26 in_X6 rfl rfl (ci := 6) rfl (by decide) tw_85 rfl rfl ?_
            refine r_iload_n (pc := 29) C 2 dX6_layEggs_29 rfl rfl ?_
            refine r_iaload (pc := 30) C 0 6 dX6_layEggs_30 rfl rfl (by decide) (by omega) ?_
            refine r_callU (pc := 31) (is := []) (C0 := RX2) (x := yX1_lays) C YBX1_lays dX6_layEggs_31 tw_568 tw_571 tw_569 tw_579 (by decide +kernel) ⟨by decide +kernel, by decide +kernel⟩ tw_569 tw_575 (c_X1_lays l G _ _) 0 10 rfl rfl (ci := 2) rfl rfl (by decide) rfl rfl (Nat.le_of_ble_eq_true rfl) ⟨rfl, rfl, by decide, by decide⟩ (jst_i (ups_nil _) ?_)
            refine r_ifb_eq (pc := 34) (tgt := 50) C dX6_layEggs_34 (by decide) (fun c34 => ?_) (fun c34 => absurd c34 (by omega))
            refine r_iinc (pc := 50) C dX6_layEggs_50 rfl ?_
            refine r_goto (pc := 53) (tgt := 7) C dX6_layEggs_53 (by decide) ?_
            refine Wc.to (ih (i + 1) (by omega) (by omega) (by omega) ) rfl (lsub_s rfl (lsub_s rfl (lsub_s rfl lsub_0))) (by rw [sEggS_s T h0]; first | (rw [if_neg (by omega)]; done) | (rcases Int.lt_or_le (sEggS T i 0 1) 8 with e8 | e8 <;> first | (rw [if_pos (by omega), if_pos (by omega)]; done) | (rw [if_neg (by omega), if_neg (by omega)]; done)))
          · skip
            refine r_aload_n (pc := 20) C 0 dX6_layEggs_20 rfl rfl ?_
            refine r_iload_n (pc := 21) C 2 dX6_layEggs_21 rfl rfl ?_
            refine r_callV (pc := 22) (is := [0]) C YX6_kindOf dX6_layEggs_22 tw_427 (c_X6_kindOf2 l G _ _ _ (by first | assumption | omega | exact zand_rng _ _ | exact zor_rng _ _ | exact zxor_rng _ _ | exact BT.r (IT.b (by assumption)) _ _) (by first | assumption | omega | exact zand_rng _ _ | exact zor_rng _ _ | exact zxor_rng _ _ | exact BT.r (IT.b (by assumption)) _ _) (by first | assumption | omega | exact zand_rng _ _ | exact zor_rng _ _ | exact zxor_rng _ _ | exact BT.r (IT.b (by assumption)) _ _)) 0 0 rfl rfl (ci := 6) rfl rfl rfl (by decide) rfl rfl (Nat.le_of_ble_eq_true rfl) ⟨rfl, rfl, by decide, by decide⟩ (jst_a (T_uall ..) ?_)
            refine r_aload_n (pc := 25) C 0 dX6_layEggs_25 rfl rfl ?_
            refine r_get (pc := 26) C 0 0 5 dX6_layEggs_26 in_X6 rfl rfl (ci := 6) rfl (by decide) tw_85 rfl rfl ?_
            refine r_iload_n (pc := 29) C 2 dX6_layEggs_29 rfl rfl ?_
            refine r_iaload (pc := 30) C 0 6 dX6_layEggs_30 rfl rfl (by decide) (by omega) ?_
            refine r_callU (pc := 31) (is := []) (C0 := RX7) (x := yX1_lays) C YBX1_lays dX6_layEggs_31 tw_568 tw_571 tw_569 tw_579 (by decide +kernel) ⟨by decide +kernel, by decide +kernel⟩ tw_569 tw_578 (c_X1_lays l G _ _) 0 11 rfl rfl (ci := 7) rfl rfl (by decide) rfl rfl (Nat.le_of_ble_eq_true rfl) ⟨rfl, rfl, by decide, by decide⟩ (jst_i (ups_nil _) ?_)
            refine r_ifb_eq (pc := 34) (tgt := 50) C dX6_layEggs_34 (by decide) (fun c34 => ?_) (fun c34 => absurd c34 (by omega))
            refine r_iinc (pc := 50) C dX6_layEggs_50 rfl ?_
            refine r_goto (pc := 53) (tgt := 7) C dX6_layEggs_53 (by decide) ?_
            refine Wc.to (ih (i + 1) (by omega) (by omega) (by omega) ) rfl (lsub_s rfl (lsub_s rfl (lsub_s rfl lsub_0))) (by rw [sEggS_s T h0]; first | (rw [if_neg (by omega)]; done) | (rcases Int.lt_or_le (sEggS T i 0 1) 8 with e8 | e8 <;> first | (rw [if_pos (by omega), if_pos (by omega)]; done) | (rw [if_neg (by omega), if_neg (by omega)]; done)))
          · skip
            refine r_aload_n (pc := 20) C 0 dX6_layEggs_20 rfl rfl ?_
            refine r_iload_n (pc := 21) C 2 dX6_layEggs_21 rfl rfl ?_
            refine r_callV (pc := 22) (is := [0]) C YX6_kindOf dX6_layEggs_22 tw_427 (c_X6_kindOf3 l G _ _ _ (by first | assumption | omega | exact zand_rng _ _ | exact zor_rng _ _ | exact zxor_rng _ _ | exact BT.r (IT.b (by assumption)) _ _) (by first | assumption | omega | exact zand_rng _ _ | exact zor_rng _ _ | exact zxor_rng _ _ | exact BT.r (IT.b (by assumption)) _ _) (by first | assumption | omega | exact zand_rng _ _ | exact zor_rng _ _ | exact zxor_rng _ _ | exact BT.r (IT.b (by assumption)) _ _)) 0 0 rfl rfl (ci := 6) rfl rfl rfl (by decide) rfl rfl (Nat.le_of_ble_eq_true rfl) ⟨rfl, rfl, by decide, by decide⟩ (jst_a (T_uall ..) ?_)
            refine r_aload_n (pc := 25) C 0 dX6_layEggs_25 rfl rfl ?_
            refine r_get (pc := 26) C 0 0 5 dX6_layEggs_26 in_X6 rfl rfl (ci := 6) rfl (by decide) tw_85 rfl rfl ?_
            refine r_iload_n (pc := 29) C 2 dX6_layEggs_29 rfl rfl ?_
            refine r_iaload (pc := 30) C 0 6 dX6_layEggs_30 rfl rfl (by decide) (by omega) ?_
            refine r_callU (pc := 31) (is := []) (C0 := RX3) (x := yX1_lays) C YBX1_lays dX6_layEggs_31 tw_568 tw_571 tw_569 tw_579 (by decide +kernel) ⟨by decide +kernel, by decide +kernel⟩ tw_569 tw_576 (c_X1_lays l G _ _) 0 12 rfl rfl (ci := 3) rfl rfl (by decide) rfl rfl (Nat.le_of_ble_eq_true rfl) ⟨rfl, rfl, by decide, by decide⟩ (jst_i (ups_nil _) ?_)
            refine r_ifb_eq (pc := 34) (tgt := 50) C dX6_layEggs_34 (by decide) (fun c34 => ?_) (fun c34 => absurd c34 (by omega))
            refine r_iinc (pc := 50) C dX6_layEggs_50 rfl ?_
            refine r_goto (pc := 53) (tgt := 7) C dX6_layEggs_53 (by decide) ?_
            refine Wc.to (ih (i + 1) (by omega) (by omega) (by omega) ) rfl (lsub_s rfl (lsub_s rfl (lsub_s rfl lsub_0))) (by rw [sEggS_s T h0]; first | (rw [if_neg (by omega)]; done) | (rcases Int.lt_or_le (sEggS T i 0 1) 8 with e8 | e8 <;> first | (rw [if_pos (by omega), if_pos (by omega)]; done) | (rw [if_neg (by omega), if_neg (by omega)]; done)))
          · skip
            refine r_aload_n (pc := 20) C 0 dX6_layEggs_20 rfl rfl ?_
            refine r_iload_n (pc := 21) C 2 dX6_layEggs_21 rfl rfl ?_
            refine r_callV (pc := 22) (is := [0]) C YX6_kindOf dX6_layEggs_22 tw_427 (c_X6_kindOf4 l G _ _ _ (by first | assumption | omega | exact zand_rng _ _ | exact zor_rng _ _ | exact zxor_rng _ _ | exact BT.r (IT.b (by assumption)) _ _) (by first | assumption | omega | exact zand_rng _ _ | exact zor_rng _ _ | exact zxor_rng _ _ | exact BT.r (IT.b (by assumption)) _ _) (by first | assumption | omega | exact zand_rng _ _ | exact zor_rng _ _ | exact zxor_rng _ _ | exact BT.r (IT.b (by assumption)) _ _)) 0 0 rfl rfl (ci := 6) rfl rfl rfl (by decide) rfl rfl (Nat.le_of_ble_eq_true rfl) ⟨rfl, rfl, by decide, by decide⟩ (jst_a (T_uall ..) ?_)
            refine r_aload_n (pc := 25) C 0 dX6_layEggs_25 rfl rfl ?_
            refine r_get (pc := 26) C 0 0 5 dX6_layEggs_26 in_X6 rfl rfl (ci := 6) rfl (by decide) tw_85 rfl rfl ?_
            refine r_iload_n (pc := 29) C 2 dX6_layEggs_29 rfl rfl ?_
            refine r_iaload (pc := 30) C 0 6 dX6_layEggs_30 rfl rfl (by decide) (by omega) ?_
            refine r_callU (pc := 31) (is := []) (C0 := RX0) (x := yX1_lays) C YBX0_lays dX6_layEggs_31 tw_568 tw_571 tw_569 tw_579 (by decide +kernel) ⟨by decide +kernel, by decide +kernel⟩ tw_573 tw_572 (c_X0_lays l G _ _ (by first | assumption | omega | exact zand_rng _ _ | exact zor_rng _ _ | exact zxor_rng _ _ | exact BT.r (IT.b (by assumption)) _ _)) 0 13 rfl rfl (ci := 0) rfl rfl (by decide) rfl rfl (Nat.le_of_ble_eq_true rfl) ⟨rfl, rfl, by decide, by decide⟩ (jst_i (ups_nil _) ?_)
            refine r_ifb_eq (pc := 34) (tgt := 50) C dX6_layEggs_34 (by decide) (fun c34 => ?_) (fun c34 => ?_)
            · refine r_iinc (pc := 50) C dX6_layEggs_50 rfl ?_
              refine r_goto (pc := 53) (tgt := 7) C dX6_layEggs_53 (by decide) ?_
              refine Wc.to (ih (i + 1) (by omega) (by omega) (by omega) ) rfl (lsub_s rfl (lsub_s rfl (lsub_s rfl lsub_0))) (by rw [sEggS_s T h0]; first | (rw [if_neg (by omega)]; done) | (rcases Int.lt_or_le (sEggS T i 0 1) 8 with e8 | e8 <;> first | (rw [if_pos (by omega), if_pos (by omega)]; done) | (rw [if_neg (by omega), if_neg (by omega)]; done)))
            · refine r_aload_n (pc := 37) C 0 dX6_layEggs_37 rfl rfl ?_
              refine r_iconst (pc := 38) C dX6_layEggs_38 ?_
              refine r_aload_n (pc := 39) C 0 dX6_layEggs_39 rfl rfl ?_
              refine r_get (pc := 40) C 0 0 4 dX6_layEggs_40 in_X6 rfl rfl (ci := 6) rfl (by decide) tw_83 rfl rfl ?_
              refine r_iload_n (pc := 43) C 2 dX6_layEggs_43 rfl rfl ?_
              refine r_iaload (pc := 44) C 0 5 dX6_layEggs_44 rfl rfl (by decide) (by omega) ?_
              refine r_iconst (pc := 45) C dX6_layEggs_45 ?_
              refine r_callV (pc := 46) (is := [0]) C YX6_addDove dX6_layEggs_46 tw_580 (c_X6_addDove l G _ _ _ _ _ (by first | assumption | omega | exact zand_rng _ _ | exact zor_rng _ _ | exact zxor_rng _ _ | exact BT.r (IT.b (by assumption)) _ _) (by first | assumption | omega | exact zand_rng _ _ | exact zor_rng _ _ | exact zxor_rng _ _ | exact BT.r (IT.b (by assumption)) _ _) (by first | assumption | omega | exact zand_rng _ _ | exact zor_rng _ _ | exact zxor_rng _ _ | exact BT.r (IT.b (by assumption)) _ _) (by first | assumption | omega | exact zand_rng _ _ | exact zor_rng _ _ | exact zxor_rng _ _ | exact BT.r (IT.b (by assumption)) _ _)) 0 0 rfl rfl (ci := 6) rfl rfl rfl (by decide) rfl rfl (Nat.le_of_ble_eq_true rfl) ⟨rfl, rfl, by decide, by decide⟩ (jst_i (T_uall ..) ?_)
              refine r_pop (pc := 49) C dX6_layEggs_49 rfl ?_
              refine r_iinc (pc := 50) C dX6_layEggs_50 rfl ?_
              refine r_goto (pc := 53) (tgt := 7) C dX6_layEggs_53 (by decide) ?_
              refine Wc.to (ih (i + 1) (by omega) (by omega) (by omega) ) rfl (lsub_s rfl (lsub_s rfl (lsub_s rfl lsub_0))) (by rw [sEggS_s T h0]; first | (rw [if_neg (by omega)]; done) | (rcases Int.lt_or_le (sEggS T i 0 1) 8 with e8 | e8 <;> first | (rw [if_pos (by omega), if_pos (by omega)]; done) | (rw [if_neg (by omega), if_neg (by omega)]; done)))
          · skip
            refine r_aload_n (pc := 20) C 0 dX6_layEggs_20 rfl rfl ?_
            refine r_iload_n (pc := 21) C 2 dX6_layEggs_21 rfl rfl ?_
            refine r_callV (pc := 22) (is := [0]) C YX6_kindOf dX6_layEggs_22 tw_427 (c_X6_kindOf5 l G _ _ _ (by first | assumption | omega | exact zand_rng _ _ | exact zor_rng _ _ | exact zxor_rng _ _ | exact BT.r (IT.b (by assumption)) _ _) (by first | assumption | omega | exact zand_rng _ _ | exact zor_rng _ _ | exact zxor_rng _ _ | exact BT.r (IT.b (by assumption)) _ _) (by first | assumption | omega | exact zand_rng _ _ | exact zor_rng _ _ | exact zxor_rng _ _ | exact BT.r (IT.b (by assumption)) _ _)) 0 0 rfl rfl (ci := 6) rfl rfl rfl (by decide) rfl rfl (Nat.le_of_ble_eq_true rfl) ⟨rfl, rfl, by decide, by decide⟩ (jst_a (T_uall ..) ?_)
            refine r_aload_n (pc := 25) C 0 dX6_layEggs_25 rfl rfl ?_
            refine r_get (pc := 26) C 0 0 5 dX6_layEggs_26 in_X6 rfl rfl (ci := 6) rfl (by decide) tw_85 rfl rfl ?_
            refine r_iload_n (pc := 29) C 2 dX6_layEggs_29 rfl rfl ?_
            refine r_iaload (pc := 30) C 0 6 dX6_layEggs_30 rfl rfl (by decide) (by omega) ?_
            refine r_callU (pc := 31) (is := []) (C0 := RX4) (x := yX1_lays) C YBX1_lays dX6_layEggs_31 tw_568 tw_571 tw_569 tw_579 (by decide +kernel) ⟨by decide +kernel, by decide +kernel⟩ tw_569 tw_577 (c_X1_lays l G _ _) 0 14 rfl rfl (ci := 4) rfl rfl (by decide) rfl rfl (Nat.le_of_ble_eq_true rfl) ⟨rfl, rfl, by decide, by decide⟩ (jst_i (ups_nil _) ?_)
            refine r_ifb_eq (pc := 34) (tgt := 50) C dX6_layEggs_34 (by decide) (fun c34 => ?_) (fun c34 => absurd c34 (by omega))
            refine r_iinc (pc := 50) C dX6_layEggs_50 rfl ?_
            refine r_goto (pc := 53) (tgt := 7) C dX6_layEggs_53 (by decide) ?_
            refine Wc.to (ih (i + 1) (by omega) (by omega) (by omega) ) rfl (lsub_s rfl (lsub_s rfl (lsub_s rfl lsub_0))) (by rw [sEggS_s T h0]; first | (rw [if_neg (by omega)]; done) | (rcases Int.lt_or_le (sEggS T i 0 1) 8 with e8 | e8 <;> first | (rw [if_pos (by omega), if_pos (by omega)]; done) | (rw [if_neg (by omega), if_neg (by omega)]; done)))
  refine Wc.to (L7 ((T 0 1 - (0)).toNat + 1) (0) (by omega) (by omega) (by omega) ) rfl (lsub_s rfl (lsub_s rfl (lsub_s rfl lsub_0))) (by rfl)

set_option maxRecDepth 100000 in
set_option maxHeartbeats 4000000 in
theorem c_X6_passDusk (l : Launch) (G : GT) (h : Nat → Nat) (T : Tn) (hI : IT T) (hk : T 0 4 < 1100) : Cn l yX6_passDusk cX6_passDusk 3 (Option.some .int) ({ frames := 4, cells := 0, slots := 0, locals := 96 }) G [.ref (h 0)] (wT G h T) (jst (some (.int (iI (sLost (sDusk T) (sDusk T 0 1) - sLost T (T 0 1))))) (wT G h (sDusk T))) := by
  refine Cn_in RX6 [some (.ref (h 0)), none, none] (by decide +kernel) rfl rfl rfl (Nat.le_of_ble_eq_true rfl) (fun K C hQ => ?_)
  have hBB := hI.b
  have hLL := hI.L
  have hDD := hI.D
  have hkk := hI.k
  obtain ⟨p1, p2, -⟩ := sD2_p hI
  obtain ⟨q1, q2, q3, -⟩ := sD3_p hI
  obtain ⟨p4, p5, p6, -⟩ := sD4_p hI
  obtain ⟨u1, u2, -⟩ := sFlyS_p hI hDD.1 (Int.le_refl _)
  have e1 : sFlyS T (T 0 1) 0 1 = T 0 1 := by rw [u2 0 (by decide)]
  have e2 : sD2 T 0 1 = T 0 1 := by rw [p2]
  have e24 : sD2 T 0 4 = T 0 4 := by rw [p2]
  have e34 : sD3 T 0 4 = T 0 4 := q3 4 (by decide)
  have e44 : sD4 T 0 4 = T 0 4 := p6 4 (by decide)
  refine r_aload_n (pc := 0) C 0 dX6_passDusk_0 rfl rfl ?_
  refine r_get (pc := 1) C 0 0 9 dX6_passDusk_1 in_X6 rfl rfl (ci := 6) rfl (by decide) tw_93 rfl rfl ?_
  refine r_istore_n (pc := 4) C 1 dX6_passDusk_4 rfl (Nat.le_of_ble_eq_true rfl) ?_
  refine r_aload_n (pc := 5) C 0 dX6_passDusk_5 rfl rfl ?_
  refine r_callV (pc := 6) (is := [0]) C YX6_flyAtDusk dX6_passDusk_6 tw_547 (c_X6_flyAtDusk l G _ _ (by first | assumption | omega | exact zand_rng _ _ | exact zor_rng _ _ | exact zxor_rng _ _ | exact BT.r (IT.b (by assumption)) _ _)) 0 0 rfl rfl (ci := 6) rfl rfl rfl (by decide) rfl rfl (Nat.le_of_ble_eq_true rfl) ⟨rfl, rfl, by decide, by decide⟩ (jst_i (T_uall ..) ?_)
  refine r_istore_n (pc := 9) C 2 dX6_passDusk_9 rfl (Nat.le_of_ble_eq_true rfl) ?_
  refine r_aload_n (pc := 10) C 0 dX6_passDusk_10 rfl rfl ?_
  refine r_callV (pc := 11) (is := [0]) C YX6_wingsGrow dX6_passDusk_11 tw_556 (c_X6_wingsGrow l G _ _ (by first | assumption | omega | exact zand_rng _ _ | exact zor_rng _ _ | exact zxor_rng _ _ | exact BT.r (IT.b (by assumption)) _ _)) 0 0 rfl rfl (ci := 6) rfl rfl rfl (by decide) rfl rfl (Nat.le_of_ble_eq_true rfl) ⟨rfl, rfl, by decide, by decide⟩ (jst_v (T_uall ..) ?_)
  refine Wc.eq (gs' := wT G h (sD2 T)) ?_ rfl rfl rfl (by unfold sD2; rw [e1])
  refine r_aload_n (pc := 14) C 0 dX6_passDusk_14 rfl rfl ?_
  refine r_get (pc := 15) C 0 0 12 dX6_passDusk_15 in_X6 rfl rfl (ci := 6) rfl (by decide) tw_99 rfl rfl ?_
  refine r_iconst (pc := 18) C dX6_passDusk_18 ?_
  refine r_irem (pc := 19) C dX6_passDusk_19 (by first | omega | (rw [e24]; omega) | (rw [e34]; omega)) (by first | omega | (rw [e24]; omega) | (rw [e34]; omega)) ?_
  refine r_if_ne (pc := 20) (tgt := 27) C dX6_passDusk_20 (by decide) (by first | omega | exact zand_rng _ _ | exact zor_rng _ _ | exact zxor_rng _ _ | exact BT.r (IT.b (by assumption)) _ _) (fun c20 => ?_) (fun c20 => ?_)
  · refine Wc.eq (gs' := wT G h (sD3 T)) ?_ rfl rfl rfl (by unfold sD3; first | rw [if_neg (by omega)] | rw [if_pos (by omega), e2])
    refine r_aload_n (pc := 27) C 0 dX6_passDusk_27 rfl rfl ?_
    refine r_get (pc := 28) C 0 0 12 dX6_passDusk_28 in_X6 rfl rfl (ci := 6) rfl (by decide) tw_99 rfl rfl ?_
    refine r_iconst (pc := 31) C dX6_passDusk_31 ?_
    refine r_irem (pc := 32) C dX6_passDusk_32 (by first | omega | (rw [e24]; omega) | (rw [e34]; omega)) (by first | omega | (rw [e24]; omega) | (rw [e34]; omega)) ?_
    refine r_if_ne (pc := 33) (tgt := 41) C dX6_passDusk_33 (by decide) (by first | omega | exact zand_rng _ _ | exact zor_rng _ _ | exact zxor_rng _ _ | exact BT.r (IT.b (by assumption)) _ _) (fun c33 => ?_) (fun c33 => ?_)
    · refine Wc.eq (gs' := wT G h (sD4 T)) ?_ rfl rfl rfl (by unfold sD4; first | rw [if_neg (by omega)] | rw [if_pos (by omega)])
      refine r_aload_n (pc := 41) C 0 dX6_passDusk_41 rfl rfl ?_
      refine r_dup (pc := 42) C dX6_passDusk_42 rfl ?_
      refine r_get (pc := 43) C 0 0 12 dX6_passDusk_43 in_X6 rfl rfl (ci := 6) rfl (by decide) tw_99 rfl rfl ?_
      refine r_iconst (pc := 46) C dX6_passDusk_46 ?_
      refine r_iadd (pc := 47) C dX6_passDusk_47 ?_
      refine r_put (pc := 48) C 0 0 12 dX6_passDusk_48 in_X6 tyX6_ok nmX6 rfl rfl (ci := 6) rfl (by decide) tw_99 rfl rfl (tyX6_ok 12 (by decide)) rfl rfl (Nat.le_of_ble_eq_true rfl) rfl (T_p0_12 ..) ?_
      refine r_iload_n (pc := 51) C 2 dX6_passDusk_51 rfl rfl ?_
      exact r_iret (pc := 52) C hQ dX6_passDusk_52 rfl (jst_ri (by unfold sNl; rw [← sLost_dusk hI]) (by unfold sDusk; rw [← e44]))
    · refine r_aload_n (pc := 36) C 0 dX6_passDusk_36 rfl rfl ?_
      refine r_iload_n (pc := 37) C 1 dX6_passDusk_37 rfl rfl ?_
      refine r_callV (pc := 38) (is := [0]) C YX6_growOlder dX6_passDusk_38 tw_581 (c_X6_growOlder l G _ _ _ (by first | assumption | omega | exact zand_rng _ _ | exact zor_rng _ _ | exact zxor_rng _ _ | exact BT.r (IT.b (by assumption)) _ _) (by first | assumption | omega | exact zand_rng _ _ | exact zor_rng _ _ | exact zxor_rng _ _ | exact BT.r (IT.b (by assumption)) _ _)) 0 0 rfl rfl (ci := 6) rfl rfl rfl (by decide) rfl rfl (Nat.le_of_ble_eq_true rfl) ⟨rfl, rfl, by decide, by decide⟩ (jst_v (T_uall ..) ?_)
      refine Wc.eq (gs' := wT G h (sD4 T)) ?_ rfl rfl rfl (by unfold sD4; first | rw [if_neg (by omega)] | rw [if_pos (by omega)])
      refine r_aload_n (pc := 41) C 0 dX6_passDusk_41 rfl rfl ?_
      refine r_dup (pc := 42) C dX6_passDusk_42 rfl ?_
      refine r_get (pc := 43) C 0 0 12 dX6_passDusk_43 in_X6 rfl rfl (ci := 6) rfl (by decide) tw_99 rfl rfl ?_
      refine r_iconst (pc := 46) C dX6_passDusk_46 ?_
      refine r_iadd (pc := 47) C dX6_passDusk_47 ?_
      refine r_put (pc := 48) C 0 0 12 dX6_passDusk_48 in_X6 tyX6_ok nmX6 rfl rfl (ci := 6) rfl (by decide) tw_99 rfl rfl (tyX6_ok 12 (by decide)) rfl rfl (Nat.le_of_ble_eq_true rfl) rfl (T_p0_12 ..) ?_
      refine r_iload_n (pc := 51) C 2 dX6_passDusk_51 rfl rfl ?_
      exact r_iret (pc := 52) C hQ dX6_passDusk_52 rfl (jst_ri (by unfold sNl; rw [← sLost_dusk hI]) (by unfold sDusk; rw [← e44]))
  · refine r_aload_n (pc := 23) C 0 dX6_passDusk_23 rfl rfl ?_
    refine r_callV (pc := 24) (is := [0]) C YX6_layEggs dX6_passDusk_24 tw_560 (c_X6_layEggs l G _ _ (by first | assumption | omega | exact zand_rng _ _ | exact zor_rng _ _ | exact zxor_rng _ _ | exact BT.r (IT.b (by assumption)) _ _)) 0 0 rfl rfl (ci := 6) rfl rfl rfl (by decide) rfl rfl (Nat.le_of_ble_eq_true rfl) ⟨rfl, rfl, by decide, by decide⟩ (jst_v (T_uall ..) ?_)
    refine Wc.eq (gs' := wT G h (sD3 T)) ?_ rfl rfl rfl (by unfold sD3; first | rw [if_neg (by omega)] | rw [if_pos (by omega), e2])
    refine r_aload_n (pc := 27) C 0 dX6_passDusk_27 rfl rfl ?_
    refine r_get (pc := 28) C 0 0 12 dX6_passDusk_28 in_X6 rfl rfl (ci := 6) rfl (by decide) tw_99 rfl rfl ?_
    refine r_iconst (pc := 31) C dX6_passDusk_31 ?_
    refine r_irem (pc := 32) C dX6_passDusk_32 (by first | omega | (rw [e24]; omega) | (rw [e34]; omega)) (by first | omega | (rw [e24]; omega) | (rw [e34]; omega)) ?_
    refine r_if_ne (pc := 33) (tgt := 41) C dX6_passDusk_33 (by decide) (by first | omega | exact zand_rng _ _ | exact zor_rng _ _ | exact zxor_rng _ _ | exact BT.r (IT.b (by assumption)) _ _) (fun c33 => ?_) (fun c33 => ?_)
    · refine Wc.eq (gs' := wT G h (sD4 T)) ?_ rfl rfl rfl (by unfold sD4; first | rw [if_neg (by omega)] | rw [if_pos (by omega)])
      refine r_aload_n (pc := 41) C 0 dX6_passDusk_41 rfl rfl ?_
      refine r_dup (pc := 42) C dX6_passDusk_42 rfl ?_
      refine r_get (pc := 43) C 0 0 12 dX6_passDusk_43 in_X6 rfl rfl (ci := 6) rfl (by decide) tw_99 rfl rfl ?_
      refine r_iconst (pc := 46) C dX6_passDusk_46 ?_
      refine r_iadd (pc := 47) C dX6_passDusk_47 ?_
      refine r_put (pc := 48) C 0 0 12 dX6_passDusk_48 in_X6 tyX6_ok nmX6 rfl rfl (ci := 6) rfl (by decide) tw_99 rfl rfl (tyX6_ok 12 (by decide)) rfl rfl (Nat.le_of_ble_eq_true rfl) rfl (T_p0_12 ..) ?_
      refine r_iload_n (pc := 51) C 2 dX6_passDusk_51 rfl rfl ?_
      exact r_iret (pc := 52) C hQ dX6_passDusk_52 rfl (jst_ri (by unfold sNl; rw [← sLost_dusk hI]) (by unfold sDusk; rw [← e44]))
    · refine r_aload_n (pc := 36) C 0 dX6_passDusk_36 rfl rfl ?_
      refine r_iload_n (pc := 37) C 1 dX6_passDusk_37 rfl rfl ?_
      refine r_callV (pc := 38) (is := [0]) C YX6_growOlder dX6_passDusk_38 tw_581 (c_X6_growOlder l G _ _ _ (by first | assumption | omega | exact zand_rng _ _ | exact zor_rng _ _ | exact zxor_rng _ _ | exact BT.r (IT.b (by assumption)) _ _) (by first | assumption | omega | exact zand_rng _ _ | exact zor_rng _ _ | exact zxor_rng _ _ | exact BT.r (IT.b (by assumption)) _ _)) 0 0 rfl rfl (ci := 6) rfl rfl rfl (by decide) rfl rfl (Nat.le_of_ble_eq_true rfl) ⟨rfl, rfl, by decide, by decide⟩ (jst_v (T_uall ..) ?_)
      refine Wc.eq (gs' := wT G h (sD4 T)) ?_ rfl rfl rfl (by unfold sD4; first | rw [if_neg (by omega)] | rw [if_pos (by omega)])
      refine r_aload_n (pc := 41) C 0 dX6_passDusk_41 rfl rfl ?_
      refine r_dup (pc := 42) C dX6_passDusk_42 rfl ?_
      refine r_get (pc := 43) C 0 0 12 dX6_passDusk_43 in_X6 rfl rfl (ci := 6) rfl (by decide) tw_99 rfl rfl ?_
      refine r_iconst (pc := 46) C dX6_passDusk_46 ?_
      refine r_iadd (pc := 47) C dX6_passDusk_47 ?_
      refine r_put (pc := 48) C 0 0 12 dX6_passDusk_48 in_X6 tyX6_ok nmX6 rfl rfl (ci := 6) rfl (by decide) tw_99 rfl rfl (tyX6_ok 12 (by decide)) rfl rfl (Nat.le_of_ble_eq_true rfl) rfl (T_p0_12 ..) ?_
      refine r_iload_n (pc := 51) C 2 dX6_passDusk_51 rfl rfl ?_
      exact r_iret (pc := 52) C hQ dX6_passDusk_52 rfl (jst_ri (by unfold sNl; rw [← sLost_dusk hI]) (by unfold sDusk; rw [← e44]))

set_option maxRecDepth 100000 in
set_option maxHeartbeats 4000000 in
theorem c_X6_passDusks (l : Launch) (G : GT) (h : Nat → Nat) (T : Tn) (m : Int) (hI : IT T) (hm : 0 ≤ m) (hk : T 0 4 + m ≤ 1100) (gm : m < 2147483648) : Cn l yX6_passDusks cX6_passDusks 4 (Option.some .int) ({ frames := 5, cells := 0, slots := 0, locals := 118 }) G [.ref (h 0), .int (iI m)] (wT G h T) (jst (some (.int (iI (sLost (sDusks T m) (sDusks T m 0 1) - sLost T (T 0 1))))) (wT G h (sDusks T m))) := by
  refine Cn_in RX6 [some (.ref (h 0)), some (.int (iI m)), none, none] (by decide +kernel) rfl rfl rfl (Nat.le_of_ble_eq_true rfl) (fun K C hQ => ?_)
  have hBB := hI.b
  have hLL := hI.L
  have hDD := hI.D
  have hkk := hI.k
  refine r_iconst (pc := 0) C dX6_passDusks_0 ?_
  refine r_istore_n (pc := 1) C 2 dX6_passDusks_1 rfl (Nat.le_of_ble_eq_true rfl) ?_
  refine r_iconst (pc := 2) C dX6_passDusks_2 ?_
  refine r_istore_n (pc := 3) C 3 dX6_passDusks_3 rfl (Nat.le_of_ble_eq_true rfl) ?_
  have L4 : ∀ (n : Nat) (i : Int), 0 ≤ i → i ≤ m → m < i + n → Wc K G 4 [some (.ref (h 0)), some (.int (iI m)), some (.int (iI (sLost (sDusks T i) (sDusks T i 0 1) - sLost T (T 0 1)))), some (.int (iI i))] [] (wT G h (sDusks T i)) := by
    intro n
    induction n with
    | zero =>
      intro i h0 h1 hn; omega
    | succ n ih =>
      intro i h0 h1 hn 
      obtain ⟨hU, -, -, -, -, hU4, -⟩ := sDusks_p hI h0 (by omega)
      refine r_iload_n (pc := 4) C 3 dX6_passDusks_4 rfl rfl ?_
      refine r_iload_n (pc := 5) C 1 dX6_passDusks_5 rfl rfl ?_
      refine r_icmp_ge (pc := 6) (tgt := 22) C dX6_passDusks_6 (by decide) (by first | omega | exact zand_rng _ _ | exact zor_rng _ _ | exact zxor_rng _ _ | exact BT.r (IT.b (by assumption)) _ _) (by first | omega | exact zand_rng _ _ | exact zor_rng _ _ | exact zxor_rng _ _ | exact BT.r (IT.b (by assumption)) _ _) (fun c6 => ?_) (fun c6 => ?_)
      · obtain rfl : m = i := by omega
        refine r_iload_n (pc := 22) C 2 dX6_passDusks_22 rfl rfl ?_
        exact r_iret (pc := 23) C hQ dX6_passDusks_23 rfl (jst_ri (by rfl) rfl)
      · refine r_iload_n (pc := 9) C 2 dX6_passDusks_9 rfl rfl ?_
        refine r_aload_n (pc := 10) C 0 dX6_passDusks_10 rfl rfl ?_
        refine r_callV (pc := 11) (is := [0]) C YX6_passDusk dX6_passDusks_11 tw_599 (c_X6_passDusk l G _ _ (by first | assumption | omega | exact zand_rng _ _ | exact zor_rng _ _ | exact zxor_rng _ _ | exact BT.r (IT.b (by assumption)) _ _) (by first | assumption | omega | exact zand_rng _ _ | exact zor_rng _ _ | exact zxor_rng _ _ | exact BT.r (IT.b (by assumption)) _ _)) 0 0 rfl rfl (ci := 6) rfl rfl rfl (by decide) rfl rfl (Nat.le_of_ble_eq_true rfl) ⟨rfl, rfl, by decide, by decide⟩ (jst_i (T_uall ..) ?_)
        refine r_iadd (pc := 14) C dX6_passDusks_14 ?_
        refine r_istore_n (pc := 15) C 2 dX6_passDusks_15 rfl (Nat.le_of_ble_eq_true rfl) ?_
        refine r_iinc (pc := 16) C dX6_passDusks_16 rfl ?_
        refine r_goto (pc := 19) (tgt := 4) C dX6_passDusks_19 (by decide) ?_
        refine Wc.to (ih (i + 1) (by omega) (by omega) (by omega) ) rfl (lsub_s (by first | rfl | (first | rfl | (rw [sDusks_s T h0]; exact congrArg (fun z => Value.int (iI z)) (by omega)))) (lsub_s (by first | rfl | (first | rfl | (rw [sDusks_s T h0]; exact congrArg (fun z => Value.int (iI z)) (by omega)))) (lsub_s (by first | rfl | (first | rfl | (rw [sDusks_s T h0]; exact congrArg (fun z => Value.int (iI z)) (by omega)))) (lsub_s (by first | rfl | (first | rfl | (rw [sDusks_s T h0]; exact congrArg (fun z => Value.int (iI z)) (by omega)))) lsub_0)))) (by rw [sDusks_s T h0])
  refine Wc.to (L4 ((m - (0)).toNat + 1) (0) (by omega) (by omega) (by omega) ) rfl (lsub_s (by first | rfl | (first | rfl | (show Value.int (iI (sLost T (T 0 1) - sLost T (T 0 1))) = _; rw [Int.sub_self]))) (lsub_s (by first | rfl | (first | rfl | (show Value.int (iI (sLost T (T 0 1) - sLost T (T 0 1))) = _; rw [Int.sub_self]))) (lsub_s (by first | rfl | (first | rfl | (show Value.int (iI (sLost T (T 0 1) - sLost T (T 0 1))) = _; rw [Int.sub_self]))) (lsub_s (by first | rfl | (first | rfl | (show Value.int (iI (sLost T (T 0 1) - sLost T (T 0 1))) = _; rw [Int.sub_self]))) lsub_0)))) (by rfl)

set_option maxRecDepth 100000 in
set_option maxHeartbeats 4000000 in
theorem c_X6_letAllGo (l : Launch) (G : GT) (h : Nat → Nat) (T : Tn) (hI : IT T) : Cn l yX6_letAllGo cX6_letAllGo 2 none ({ frames := 5, cells := 0, slots := 0, locals := 116 }) G [.ref (h 0)] (wT G h T) (jst none (wT G h (sLet T (T 0 1)))) := by
  refine Cn_in RX6 [some (.ref (h 0)), none] (by decide +kernel) rfl rfl rfl (Nat.le_of_ble_eq_true rfl) (fun K C hQ => ?_)
  have hBB := hI.b
  have hLL := hI.L
  have hDD := hI.D
  refine r_iconst (pc := 0) C dX6_letAllGo_0 ?_
  refine r_istore_n (pc := 1) C 1 dX6_letAllGo_1 rfl (Nat.le_of_ble_eq_true rfl) ?_
  have L2 : ∀ (n : Nat) (i : Int), 0 ≤ i → i ≤ T 0 1 → T 0 1 < i + n → Wc K G 2 [some (.ref (h 0)), some (.int (iI i))] [] (wT G h (sLet T i)) := by
    intro n
    induction n with
    | zero =>
      intro i h0 h1 hn; omega
    | succ n ih =>
      intro i h0 h1 hn 
      obtain ⟨hU, hU2⟩ := sLet_p hI h0 h1
      have e1 : sLet T i 0 1 = T 0 1 := by rw [hU2 0 (by decide)]
      refine r_iload_n (pc := 2) C 1 dX6_letAllGo_2 rfl rfl ?_
      refine r_aload_n (pc := 3) C 0 dX6_letAllGo_3 rfl rfl ?_
      refine r_get (pc := 4) C 0 0 9 dX6_letAllGo_4 in_X6 rfl rfl (ci := 6) rfl (by decide) tw_93 rfl rfl ?_
      refine r_icmp_ge (pc := 7) (tgt := 27) C dX6_letAllGo_7 (by decide) (by first | omega | exact zand_rng _ _ | exact zor_rng _ _ | exact zxor_rng _ _ | exact BT.r (IT.b (by assumption)) _ _) (by first | omega | exact zand_rng _ _ | exact zor_rng _ _ | exact zxor_rng _ _ | exact BT.r (IT.b (by assumption)) _ _) (fun c7 => ?_) (fun c7 => ?_)
      · obtain rfl : i = T 0 1 := by omega
        exact r_vret (pc := 27) C hQ dX6_letAllGo_27 rfl (jst_rv rfl)
      · have hdd := hU.d h0 (by omega)
        have hff := sFly_r hU h0 (by omega)
        have hw8 : sFly (sLet T i) i ≠ 9 → sWay (sLet T i) (sLet T i 6 i) (sFly (sLet T i) i) ≤ 18 := fun e => by
          by_cases e9 : sLet T i 6 i = 9
          · exact absurd (by unfold sFly; rw [if_pos e9]) e
          · exact (sWay_r hU (a := sLet T i 6 i) (b := sFly (sLet T i) i) (by omega) (by omega)).2
        refine r_aload_n (pc := 10) C 0 dX6_letAllGo_10 rfl rfl ?_
        refine r_get (pc := 11) C 0 0 6 dX6_letAllGo_11 in_X6 rfl rfl (ci := 6) rfl (by decide) tw_87 rfl rfl ?_
        refine r_iload_n (pc := 14) C 1 dX6_letAllGo_14 rfl rfl ?_
        refine r_aload_n (pc := 15) C 0 dX6_letAllGo_15 rfl rfl ?_
        refine r_iload_n (pc := 16) C 1 dX6_letAllGo_16 rfl rfl ?_
        refine r_callV (pc := 17) (is := [0]) C YX6_placeIfLetGo dX6_letAllGo_17 tw_609 (c_X6_placeIfLetGo l G _ _ _ (by first | assumption | omega | exact zand_rng _ _ | exact zor_rng _ _ | exact zxor_rng _ _ | exact BT.r (IT.b (by assumption)) _ _) (by first | assumption | omega | exact zand_rng _ _ | exact zor_rng _ _ | exact zxor_rng _ _ | exact BT.r (IT.b (by assumption)) _ _)) 0 0 rfl rfl (ci := 6) rfl rfl rfl (by decide) rfl rfl (Nat.le_of_ble_eq_true rfl) ⟨rfl, rfl, by decide, by decide⟩ (jst_i (T_uall ..) ?_)
        refine r_iastore (pc := 20) C 0 7 dX6_letAllGo_20 rfl rfl (by decide) (by omega) rfl (T_a0_7 ..) ?_
        refine r_iinc (pc := 21) C dX6_letAllGo_21 rfl ?_
        refine r_goto (pc := 24) (tgt := 2) C dX6_letAllGo_24 (by decide) ?_
        refine Wc.to (ih (i + 1) (by omega) (by omega) (by omega) ) rfl (lsub_s rfl (lsub_s rfl lsub_0)) (by rw [sLet_m h0 hw8])
  refine Wc.to (L2 ((T 0 1 - (0)).toNat + 1) (0) (by omega) (by omega) (by omega) ) rfl (lsub_s rfl (lsub_s rfl lsub_0)) (by rfl)

set_option maxRecDepth 100000 in
set_option maxHeartbeats 4000000 in
theorem c_X6_become (l : Launch) (G : GT) (h1 h2 : Nat → Nat) (T1 T2 : Tn)  : Cn l yX6_become cX6_become 2 none ({ frames := 1, cells := 0, slots := 0, locals := 119 }) G [.ref (h1 0), .ref (h2 0)] (wU2 G h1 h2 T1 T2) (jst none (wU2 G h1 h2 T2 T2)) := by
  refine Cn_in RX6 [some (.ref (h1 0)), some (.ref (h2 0))] (by decide +kernel) rfl rfl rfl (Nat.le_of_ble_eq_true rfl) (fun K C hQ => ?_)
  refine r_aload_n (pc := 0) C 1 dX6_become_0 rfl rfl ?_
  refine r_get (pc := 1) C 1 0 1 dX6_become_1 in_X6 rfl rfl (ci := 6) rfl (by decide) tw_77 rfl rfl ?_
  refine r_iconst (pc := 4) C dX6_become_4 ?_
  refine r_aload_n (pc := 5) C 0 dX6_become_5 rfl rfl ?_
  refine r_get (pc := 6) C 0 0 1 dX6_become_6 in_X6 rfl rfl (ci := 6) rfl (by decide) tw_77 rfl rfl ?_
  refine r_iconst (pc := 9) C dX6_become_9 ?_
  refine r_bipush (pc := 10) C dX6_become_10 (by decide) ?_
  refine r_copy (pc := 12) (n := 6) C 1 2 0 2 dX6_become_12 tw_347 tw_349 tw_348 tw_17 rfl rfl rfl rfl (by decide) (Nat.le_of_ble_eq_true rfl) (by decide) rfl (U_c0_2 ..) ?_
  refine r_aload_n (pc := 15) C 1 dX6_become_15 rfl rfl ?_
  refine r_get (pc := 16) C 1 0 2 dX6_become_16 in_X6 rfl rfl (ci := 6) rfl (by decide) tw_79 rfl rfl ?_
  refine r_iconst (pc := 19) C dX6_become_19 ?_
  refine r_aload_n (pc := 20) C 0 dX6_become_20 rfl rfl ?_
  refine r_get (pc := 21) C 0 0 2 dX6_become_21 in_X6 rfl rfl (ci := 6) rfl (by decide) tw_79 rfl rfl ?_
  refine r_iconst (pc := 24) C dX6_become_24 ?_
  refine r_bipush (pc := 25) C dX6_become_25 (by decide) ?_
  refine r_copy (pc := 27) (n := 6) C 1 3 0 3 dX6_become_27 tw_347 tw_349 tw_348 tw_17 rfl rfl rfl rfl (by decide) (Nat.le_of_ble_eq_true rfl) (by decide) rfl (U_c0_3 ..) ?_
  refine r_aload_n (pc := 30) C 1 dX6_become_30 rfl rfl ?_
  refine r_get (pc := 31) C 1 0 3 dX6_become_31 in_X6 rfl rfl (ci := 6) rfl (by decide) tw_81 rfl rfl ?_
  refine r_iconst (pc := 34) C dX6_become_34 ?_
  refine r_aload_n (pc := 35) C 0 dX6_become_35 rfl rfl ?_
  refine r_get (pc := 36) C 0 0 3 dX6_become_36 in_X6 rfl rfl (ci := 6) rfl (by decide) tw_81 rfl rfl ?_
  refine r_iconst (pc := 39) C dX6_become_39 ?_
  refine r_bipush (pc := 40) C dX6_become_40 (by decide) ?_
  refine r_copy (pc := 42) (n := 8) C 1 4 0 4 dX6_become_42 tw_347 tw_349 tw_348 tw_17 rfl rfl rfl rfl (by decide) (Nat.le_of_ble_eq_true rfl) (by decide) rfl (U_c0_4 ..) ?_
  refine r_aload_n (pc := 45) C 1 dX6_become_45 rfl rfl ?_
  refine r_get (pc := 46) C 1 0 4 dX6_become_46 in_X6 rfl rfl (ci := 6) rfl (by decide) tw_83 rfl rfl ?_
  refine r_iconst (pc := 49) C dX6_become_49 ?_
  refine r_aload_n (pc := 50) C 0 dX6_become_50 rfl rfl ?_
  refine r_get (pc := 51) C 0 0 4 dX6_become_51 in_X6 rfl rfl (ci := 6) rfl (by decide) tw_83 rfl rfl ?_
  refine r_iconst (pc := 54) C dX6_become_54 ?_
  refine r_bipush (pc := 55) C dX6_become_55 (by decide) ?_
  refine r_copy (pc := 57) (n := 8) C 1 5 0 5 dX6_become_57 tw_347 tw_349 tw_348 tw_17 rfl rfl rfl rfl (by decide) (Nat.le_of_ble_eq_true rfl) (by decide) rfl (U_c0_5 ..) ?_
  refine r_aload_n (pc := 60) C 1 dX6_become_60 rfl rfl ?_
  refine r_get (pc := 61) C 1 0 5 dX6_become_61 in_X6 rfl rfl (ci := 6) rfl (by decide) tw_85 rfl rfl ?_
  refine r_iconst (pc := 64) C dX6_become_64 ?_
  refine r_aload_n (pc := 65) C 0 dX6_become_65 rfl rfl ?_
  refine r_get (pc := 66) C 0 0 5 dX6_become_66 in_X6 rfl rfl (ci := 6) rfl (by decide) tw_85 rfl rfl ?_
  refine r_iconst (pc := 69) C dX6_become_69 ?_
  refine r_bipush (pc := 70) C dX6_become_70 (by decide) ?_
  refine r_copy (pc := 72) (n := 8) C 1 6 0 6 dX6_become_72 tw_347 tw_349 tw_348 tw_17 rfl rfl rfl rfl (by decide) (Nat.le_of_ble_eq_true rfl) (by decide) rfl (U_c0_6 ..) ?_
  refine r_aload_n (pc := 75) C 1 dX6_become_75 rfl rfl ?_
  refine r_get (pc := 76) C 1 0 6 dX6_become_76 in_X6 rfl rfl (ci := 6) rfl (by decide) tw_87 rfl rfl ?_
  refine r_iconst (pc := 79) C dX6_become_79 ?_
  refine r_aload_n (pc := 80) C 0 dX6_become_80 rfl rfl ?_
  refine r_get (pc := 81) C 0 0 6 dX6_become_81 in_X6 rfl rfl (ci := 6) rfl (by decide) tw_87 rfl rfl ?_
  refine r_iconst (pc := 84) C dX6_become_84 ?_
  refine r_bipush (pc := 85) C dX6_become_85 (by decide) ?_
  refine r_copy (pc := 87) (n := 8) C 1 7 0 7 dX6_become_87 tw_347 tw_349 tw_348 tw_17 rfl rfl rfl rfl (by decide) (Nat.le_of_ble_eq_true rfl) (by decide) rfl (U_c0_7 ..) ?_
  refine r_aload_n (pc := 90) C 1 dX6_become_90 rfl rfl ?_
  refine r_get (pc := 91) C 1 0 7 dX6_become_91 in_X6 rfl rfl (ci := 6) rfl (by decide) tw_89 rfl rfl ?_
  refine r_iconst (pc := 94) C dX6_become_94 ?_
  refine r_aload_n (pc := 95) C 0 dX6_become_95 rfl rfl ?_
  refine r_get (pc := 96) C 0 0 7 dX6_become_96 in_X6 rfl rfl (ci := 6) rfl (by decide) tw_89 rfl rfl ?_
  refine r_iconst (pc := 99) C dX6_become_99 ?_
  refine r_bipush (pc := 100) C dX6_become_100 (by decide) ?_
  refine r_copy (pc := 102) (n := 8) C 1 8 0 8 dX6_become_102 tw_347 tw_349 tw_348 tw_17 rfl rfl rfl rfl (by decide) (Nat.le_of_ble_eq_true rfl) (by decide) rfl (U_c0_8 ..) ?_
  refine r_aload_n (pc := 105) C 0 dX6_become_105 rfl rfl ?_
  refine r_aload_n (pc := 106) C 1 dX6_become_106 rfl rfl ?_
  refine r_get (pc := 107) C 1 0 8 dX6_become_107 in_X6 rfl rfl (ci := 6) rfl (by decide) tw_91 rfl rfl ?_
  refine r_put (pc := 110) C 0 0 8 dX6_become_110 in_X6 tyX6_ok nmX6 rfl rfl (ci := 6) rfl (by decide) tw_91 rfl rfl (tyX6_ok 8 (by decide)) rfl rfl (Nat.le_of_ble_eq_true rfl) rfl (U_p0_8 ..) ?_
  refine r_aload_n (pc := 113) C 0 dX6_become_113 rfl rfl ?_
  refine r_aload_n (pc := 114) C 1 dX6_become_114 rfl rfl ?_
  refine r_get (pc := 115) C 1 0 9 dX6_become_115 in_X6 rfl rfl (ci := 6) rfl (by decide) tw_93 rfl rfl ?_
  refine r_put (pc := 118) C 0 0 9 dX6_become_118 in_X6 tyX6_ok nmX6 rfl rfl (ci := 6) rfl (by decide) tw_93 rfl rfl (tyX6_ok 9 (by decide)) rfl rfl (Nat.le_of_ble_eq_true rfl) rfl (U_p0_9 ..) ?_
  refine r_aload_n (pc := 121) C 0 dX6_become_121 rfl rfl ?_
  refine r_aload_n (pc := 122) C 1 dX6_become_122 rfl rfl ?_
  refine r_get (pc := 123) C 1 0 10 dX6_become_123 in_X6 rfl rfl (ci := 6) rfl (by decide) tw_95 rfl rfl ?_
  refine r_put (pc := 126) C 0 0 10 dX6_become_126 in_X6 tyX6_ok nmX6 rfl rfl (ci := 6) rfl (by decide) tw_95 rfl rfl (tyX6_ok 10 (by decide)) rfl rfl (Nat.le_of_ble_eq_true rfl) rfl (U_p0_10 ..) ?_
  refine r_aload_n (pc := 129) C 0 dX6_become_129 rfl rfl ?_
  refine r_aload_n (pc := 130) C 1 dX6_become_130 rfl rfl ?_
  refine r_get (pc := 131) C 1 0 11 dX6_become_131 in_X6 rfl rfl (ci := 6) rfl (by decide) tw_97 rfl rfl ?_
  refine r_put (pc := 134) C 0 0 11 dX6_become_134 in_X6 tyX6_ok nmX6 rfl rfl (ci := 6) rfl (by decide) tw_97 rfl rfl (tyX6_ok 11 (by decide)) rfl rfl (Nat.le_of_ble_eq_true rfl) rfl (U_p0_11 ..) ?_
  refine r_aload_n (pc := 137) C 0 dX6_become_137 rfl rfl ?_
  refine r_aload_n (pc := 138) C 1 dX6_become_138 rfl rfl ?_
  refine r_get (pc := 139) C 1 0 12 dX6_become_139 in_X6 rfl rfl (ci := 6) rfl (by decide) tw_99 rfl rfl ?_
  refine r_put (pc := 142) C 0 0 12 dX6_become_142 in_X6 tyX6_ok nmX6 rfl rfl (ci := 6) rfl (by decide) tw_99 rfl rfl (tyX6_ok 12 (by decide)) rfl rfl (Nat.le_of_ble_eq_true rfl) rfl (U_p0_12 ..) ?_
  exact r_vret (pc := 145) C hQ dX6_become_145 rfl (jst_rv rfl)

set_option maxRecDepth 100000 in
set_option maxHeartbeats 4000000 in
theorem c_X6_addLoft (l : Launch) (G : GT) (h : Nat → Nat) (T : Tn) (x y : Int) (hI : IT T) (gx : -2147483648 ≤ x ∧ x < 2147483648) (gy : -2147483648 ≤ y ∧ y < 2147483648) : Cn l yX6_addLoft cX6_addLoft 3 (Option.some .boolean) ({ frames := 0, cells := 0, slots := 0, locals := 0 }) G [.ref (h 0), .int (iI x), .int (iI y)] (wT G h T) (jst (some (.int (iI (zb (T 0 0 < 6))))) (wT G h (if T 0 0 < 6 then up (up (up T 1 (T 0 0) x) 2 (T 0 0) y) 0 0 (T 0 0 + 1) else T))) := by
  refine Cn_in RX6 [some (.ref (h 0)), some (.int (iI x)), some (.int (iI y))] (by decide +kernel) rfl rfl rfl (Nat.le_of_ble_eq_true rfl) (fun K C hQ => ?_)
  have hBB := hI.b
  have hLL := hI.L
  have hDD := hI.D
  refine r_aload_n (pc := 0) C 0 dX6_addLoft_0 rfl rfl ?_
  refine r_get (pc := 1) C 0 0 8 dX6_addLoft_1 in_X6 rfl rfl (ci := 6) rfl (by decide) tw_91 rfl rfl ?_
  refine r_bipush (pc := 4) C dX6_addLoft_4 (by decide) ?_
  refine r_icmp_lt (pc := 6) (tgt := 11) C dX6_addLoft_6 (by decide) (by first | omega | exact zand_rng _ _ | exact zor_rng _ _ | exact zxor_rng _ _ | exact BT.r (IT.b (by assumption)) _ _) (by first | omega | exact zand_rng _ _ | exact zor_rng _ _ | exact zxor_rng _ _ | exact BT.r (IT.b (by assumption)) _ _) (fun c6 => ?_) (fun c6 => ?_)
  · refine r_aload_n (pc := 11) C 0 dX6_addLoft_11 rfl rfl ?_
    refine r_get (pc := 12) C 0 0 1 dX6_addLoft_12 in_X6 rfl rfl (ci := 6) rfl (by decide) tw_77 rfl rfl ?_
    refine r_aload_n (pc := 15) C 0 dX6_addLoft_15 rfl rfl ?_
    refine r_get (pc := 16) C 0 0 8 dX6_addLoft_16 in_X6 rfl rfl (ci := 6) rfl (by decide) tw_91 rfl rfl ?_
    refine r_iload_n (pc := 19) C 1 dX6_addLoft_19 rfl rfl ?_
    refine r_iastore (pc := 20) C 0 2 dX6_addLoft_20 rfl rfl (by decide) (by first | omega | (show 0 ≤ T 0 0 ∧ T 0 0 < 6; omega)) rfl (T_a0_2 ..) ?_
    refine r_aload_n (pc := 21) C 0 dX6_addLoft_21 rfl rfl ?_
    refine r_get (pc := 22) C 0 0 2 dX6_addLoft_22 in_X6 rfl rfl (ci := 6) rfl (by decide) tw_79 rfl rfl ?_
    refine r_aload_n (pc := 25) C 0 dX6_addLoft_25 rfl rfl ?_
    refine r_get (pc := 26) C 0 0 8 dX6_addLoft_26 in_X6 rfl rfl (ci := 6) rfl (by decide) tw_91 rfl rfl ?_
    refine r_iload_n (pc := 29) C 2 dX6_addLoft_29 rfl rfl ?_
    refine r_iastore (pc := 30) C 0 3 dX6_addLoft_30 rfl rfl (by decide) (by first | omega | (show 0 ≤ T 0 0 ∧ T 0 0 < 6; omega)) rfl (T_a0_3 ..) ?_
    refine r_aload_n (pc := 31) C 0 dX6_addLoft_31 rfl rfl ?_
    refine r_dup (pc := 32) C dX6_addLoft_32 rfl ?_
    refine r_get (pc := 33) C 0 0 8 dX6_addLoft_33 in_X6 rfl rfl (ci := 6) rfl (by decide) tw_91 rfl rfl ?_
    refine r_iconst (pc := 36) C dX6_addLoft_36 ?_
    refine r_iadd (pc := 37) C dX6_addLoft_37 ?_
    refine r_put (pc := 38) C 0 0 8 dX6_addLoft_38 in_X6 tyX6_ok nmX6 rfl rfl (ci := 6) rfl (by decide) tw_91 rfl rfl (tyX6_ok 8 (by decide)) rfl rfl (Nat.le_of_ble_eq_true rfl) rfl (T_p0_8 ..) ?_
    refine r_iconst (pc := 41) C dX6_addLoft_41 ?_
    exact r_zret (pc := 42) C hQ dX6_addLoft_42 (by decide) rfl (jst_ri (by exact (zb_t (by omega)).symm) (by first | (rw [if_pos (by omega)]; done) | (rw [if_pos (by omega)]; rfl) | (rw [if_neg (by omega)]; done) | (rw [if_neg (by omega)]; rfl)))
  · refine r_iconst (pc := 9) C dX6_addLoft_9 ?_
    exact r_zret (pc := 10) C hQ dX6_addLoft_10 (by decide) rfl (jst_ri (by exact (zb_f (by omega)).symm) (by first | (rw [if_pos (by omega)]; done) | (rw [if_pos (by omega)]; rfl) | (rw [if_neg (by omega)]; done) | (rw [if_neg (by omega)]; rfl)))

set_option maxRecDepth 100000 in
set_option maxHeartbeats 4000000 in
theorem c_X6_turnWindows (l : Launch) (G : GT) (h : Nat → Nat) (T : Tn) (z : Int) (hI : IT T) (gz : -2147483648 ≤ z ∧ z < 2147483648) : Cn l yX6_turnWindows cX6_turnWindows 2 (Option.some .boolean) ({ frames := 1, cells := 0, slots := 0, locals := 21 }) G [.ref (h 0), .int (iI z)] (wT G h T) (jst (some (.int (iI (zb (0 ≤ z ∧ z < T 0 0))))) (wT G h (if 0 ≤ z ∧ z < T 0 0 then up T 0 2 (zxor (T 0 2) (1 * zp2 z)) else T))) := by
  refine Cn_in RX6 [some (.ref (h 0)), some (.int (iI z))] (by decide +kernel) rfl rfl rfl (Nat.le_of_ble_eq_true rfl) (fun K C hQ => ?_)
  have hBB := hI.b
  have hLL := hI.L
  have hDD := hI.D
  refine r_aload_n (pc := 0) C 0 dX6_turnWindows_0 rfl rfl ?_
  refine r_iload_n (pc := 1) C 1 dX6_turnWindows_1 rfl rfl ?_
  refine r_callV (pc := 2) (is := [0]) C YX6_hasLoft dX6_turnWindows_2 tw_370 (c_X6_hasLoft l G _ _ _ (by first | assumption | omega | exact zand_rng _ _ | exact zor_rng _ _ | exact zxor_rng _ _ | exact BT.r (IT.b (by assumption)) _ _) (by first | assumption | omega | exact zand_rng _ _ | exact zor_rng _ _ | exact zxor_rng _ _ | exact BT.r (IT.b (by assumption)) _ _)) 0 0 rfl rfl (ci := 6) rfl rfl rfl (by decide) rfl rfl (Nat.le_of_ble_eq_true rfl) ⟨rfl, rfl, by decide, by decide⟩ (jst_i (T_uall ..) ?_)
  refine r_ifb_ne (pc := 5) (tgt := 10) C dX6_turnWindows_5 (by decide) (fun c5 => ?_) (fun c5 => ?_)
  · refine r_aload_n (pc := 10) C 0 dX6_turnWindows_10 rfl rfl ?_
    refine r_dup (pc := 11) C dX6_turnWindows_11 rfl ?_
    refine r_get (pc := 12) C 0 0 10 dX6_turnWindows_12 in_X6 rfl rfl (ci := 6) rfl (by decide) tw_95 rfl rfl ?_
    refine r_iconst (pc := 15) C dX6_turnWindows_15 ?_
    refine r_iload_n (pc := 16) C 1 dX6_turnWindows_16 rfl rfl ?_
    refine r_ishl (pc := 17) C dX6_turnWindows_17 (by omega) ?_
    refine r_ixor (pc := 18) C dX6_turnWindows_18 ?_
    refine r_put (pc := 19) C 0 0 10 dX6_turnWindows_19 in_X6 tyX6_ok nmX6 rfl rfl (ci := 6) rfl (by decide) tw_95 rfl rfl (tyX6_ok 10 (by decide)) rfl rfl (Nat.le_of_ble_eq_true rfl) rfl (T_p0_10 ..) ?_
    refine r_iconst (pc := 22) C dX6_turnWindows_22 ?_
    exact r_zret (pc := 23) C hQ dX6_turnWindows_23 (by decide) rfl (jst_ri (by exact (zb_t (by omega)).symm) (by first | (rw [if_pos (by omega)]; done) | (rw [if_pos (by omega)]; rfl) | (rw [if_neg (by omega)]; done) | (rw [if_neg (by omega)]; rfl)))
  · refine r_iconst (pc := 8) C dX6_turnWindows_8 ?_
    exact r_zret (pc := 9) C hQ dX6_turnWindows_9 (by decide) rfl (jst_ri (by exact (zb_f (by omega)).symm) (by first | (rw [if_pos (by omega)]; done) | (rw [if_pos (by omega)]; rfl) | (rw [if_neg (by omega)]; done) | (rw [if_neg (by omega)]; rfl)))

set_option maxRecDepth 100000 in
set_option maxHeartbeats 4000000 in
theorem c_X6_takeHawk (l : Launch) (G : GT) (h : Nat → Nat) (T : Tn) (v : Int) (gv : -2147483648 ≤ v ∧ v < 2147483648) : Cn l yX6_takeHawk cX6_takeHawk 2 (Option.some .boolean) ({ frames := 0, cells := 0, slots := 0, locals := 0 }) G [.ref (h 0), .int (iI v)] (wT G h T) (jst (some (.int (iI (zb (0 ≤ v ∧ v ≤ 20))))) (wT G h (if 0 ≤ v ∧ v ≤ 20 then up T 0 3 v else T))) := by
  refine Cn_in RX6 [some (.ref (h 0)), some (.int (iI v))] (by decide +kernel) rfl rfl rfl (Nat.le_of_ble_eq_true rfl) (fun K C hQ => ?_)
  refine r_iload_n (pc := 0) C 1 dX6_takeHawk_0 rfl rfl ?_
  refine r_if_lt (pc := 1) (tgt := 10) C dX6_takeHawk_1 (by decide) (by first | omega | exact zand_rng _ _ | exact zor_rng _ _ | exact zxor_rng _ _ | exact BT.r (IT.b (by assumption)) _ _) (fun c1 => ?_) (fun c1 => ?_)
  · refine r_iconst (pc := 10) C dX6_takeHawk_10 ?_
    exact r_zret (pc := 11) C hQ dX6_takeHawk_11 (by decide) rfl (jst_ri (by exact (zb_f (by omega)).symm) (by first | (rw [if_pos (by omega)]; done) | (rw [if_pos (by omega)]; rfl) | (rw [if_neg (by omega)]; done) | (rw [if_neg (by omega)]; rfl)))
  · refine r_iload_n (pc := 4) C 1 dX6_takeHawk_4 rfl rfl ?_
    refine r_bipush (pc := 5) C dX6_takeHawk_5 (by decide) ?_
    refine r_icmp_le (pc := 7) (tgt := 12) C dX6_takeHawk_7 (by decide) (by first | omega | exact zand_rng _ _ | exact zor_rng _ _ | exact zxor_rng _ _ | exact BT.r (IT.b (by assumption)) _ _) (by first | omega | exact zand_rng _ _ | exact zor_rng _ _ | exact zxor_rng _ _ | exact BT.r (IT.b (by assumption)) _ _) (fun c7 => ?_) (fun c7 => ?_)
    · refine r_aload_n (pc := 12) C 0 dX6_takeHawk_12 rfl rfl ?_
      refine r_iload_n (pc := 13) C 1 dX6_takeHawk_13 rfl rfl ?_
      refine r_put (pc := 14) C 0 0 11 dX6_takeHawk_14 in_X6 tyX6_ok nmX6 rfl rfl (ci := 6) rfl (by decide) tw_97 rfl rfl (tyX6_ok 11 (by decide)) rfl rfl (Nat.le_of_ble_eq_true rfl) rfl (T_p0_11 ..) ?_
      refine r_iconst (pc := 17) C dX6_takeHawk_17 ?_
      exact r_zret (pc := 18) C hQ dX6_takeHawk_18 (by decide) rfl (jst_ri (by exact (zb_t (by omega)).symm) (by first | (rw [if_pos (by omega)]; done) | (rw [if_pos (by omega)]; rfl) | (rw [if_neg (by omega)]; done) | (rw [if_neg (by omega)]; rfl)))
    · refine r_iconst (pc := 10) C dX6_takeHawk_10 ?_
      exact r_zret (pc := 11) C hQ dX6_takeHawk_11 (by decide) rfl (jst_ri (by exact (zb_f (by omega)).symm) (by first | (rw [if_pos (by omega)]; done) | (rw [if_pos (by omega)]; rfl) | (rw [if_neg (by omega)]; done) | (rw [if_neg (by omega)]; rfl)))

