set_option maxRecDepth 100000 in
set_option maxHeartbeats 4000000 in
theorem c_X8_near (l : Launch) (G : GT) (a : Nat → Nat) (X N M P S : Tn) (v w : Int) (hI : IT N) (hX : IX X S) (gv : -2147483648 ≤ v ∧ v < 2147483648) (gw : -2147483648 ≤ w ∧ w < 2147483648) : Cn l yX8_near cX8_near 4 (Option.some .int) ({ frames := 7, cells := 0, slots := 0, locals := 154 }) G [.ref (a 0), .int (iI v), .int (iI w)] (wC G a X N M P S) (aE G a (q_near v w) (v_near N v w) (X) (xrf X (q_near v w)) (N) N P S) := by
  refine Cn_in RX8 [some (.ref (a 0)), some (.int (iI v)), some (.int (iI w)), none] (by decide +kernel) rfl rfl rfl (Nat.le_of_ble_eq_true rfl) (fun K C hQ => ?_)
  obtain ⟨x1, s1, x3, s6, x8⟩ := hX
  have hBB := hI.b
  have hLL := hI.L
  have hDD := hI.D
  have hkk := hI.k
  refine r_iload_n (pc := 0) C 1 dX8_near_0 rfl rfl ?_
  refine r_iconst (pc := 1) C dX8_near_1 ?_
  refine r_bipush (pc := 2) C dX8_near_2 (by decide) ?_
  refine r_callS (pc := 4) (is := []) C YX8_outside dX8_near_4 tw_178 (c_X8_outside l G _ _ _ (by first | assumption | omega | exact zand_rng _ _ | exact zor_rng _ _ | exact zxor_rng _ _ | exact BT.r (IT.b (by assumption)) _ _) (by first | assumption | omega | exact zand_rng _ _ | exact zor_rng _ _ | exact zxor_rng _ _ | exact BT.r (IT.b (by assumption)) _ _) (by first | assumption | omega | exact zand_rng _ _ | exact zor_rng _ _ | exact zxor_rng _ _ | exact BT.r (IT.b (by assumption)) _ _)) rfl (by decide) rfl rfl (Nat.le_of_ble_eq_true rfl) ⟨rfl, rfl, by decide, by decide⟩ (jst_i (ups_nil _) ?_)
  have hs4 := sOut_r v 0 18 (by decide)
  refine r_istore_n (pc := 7) C 3 dX8_near_7 rfl (Nat.le_of_ble_eq_true rfl) ?_
  refine r_iload_n (pc := 8) C 3 dX8_near_8 rfl rfl ?_
  refine r_if_ne (pc := 9) (tgt := 24) C dX8_near_9 (by decide) (by first | omega | exact zand_rng _ _ | exact zor_rng _ _ | exact zxor_rng _ _ | exact BT.r (IT.b (by assumption)) _ _) (fun c9 => ?_) (fun c9 => ?_)
  · refine r_iload_n (pc := 24) C 3 dX8_near_24 rfl rfl ?_
    refine r_if_eq (pc := 25) (tgt := 34) C dX8_near_25 (by decide) (by first | omega | exact zand_rng _ _ | exact zor_rng _ _ | exact zxor_rng _ _ | exact BT.r (IT.b (by assumption)) _ _) (fun c25 => absurd c25 (by omega)) (fun c25 => ?_)
    refine r_aload_n (pc := 28) C 0 dX8_near_28 rfl rfl ?_
    refine r_iload_n (pc := 29) C 3 dX8_near_29 rfl rfl ?_
    refine r_callV (pc := 30) (is := [0, 1, 2, 3, 4]) C YX8_refuse dX8_near_30 tw_185 (c_X8_refuse l G _ _ _ _ _ _ _ (by first | assumption | omega | exact zand_rng _ _ | exact zor_rng _ _ | exact zxor_rng _ _ | exact BT.r (IT.b (by assumption)) _ _)) 0 0 rfl rfl (ci := 8) rfl rfl rfl (by decide) rfl rfl (Nat.le_of_ble_eq_true rfl) ⟨rfl, rfl, by decide, by decide⟩ (jst_i (C_uall ..) ?_)
    exact r_iret (pc := 33) C hQ dX8_near_33 rfl (fin_noE (by unfold q_near; (repeat (first | rw [if_pos (by omega)] | rw [if_neg (by omega)])); (try first | rfl | assumption | omega)) (by omega) rfl)
  · refine r_iload_n (pc := 12) C 2 dX8_near_12 rfl rfl ?_
    refine r_if_eq (pc := 13) (tgt := 24) C dX8_near_13 (by decide) (by first | omega | exact zand_rng _ _ | exact zor_rng _ _ | exact zxor_rng _ _ | exact BT.r (IT.b (by assumption)) _ _) (fun c13 => ?_) (fun c13 => ?_)
    · refine r_iload_n (pc := 24) C 3 dX8_near_24 rfl rfl ?_
      refine r_if_eq (pc := 25) (tgt := 34) C dX8_near_25 (by decide) (by first | omega | exact zand_rng _ _ | exact zor_rng _ _ | exact zxor_rng _ _ | exact BT.r (IT.b (by assumption)) _ _) (fun c25 => ?_) (fun c25 => ?_)
      · refine r_aload_n (pc := 34) C 0 dX8_near_34 rfl rfl ?_
        refine r_iload_n (pc := 35) C 1 dX8_near_35 rfl rfl ?_
        refine r_callV (pc := 36) (is := [0, 1, 2, 3, 4]) C YX8_joinLofts dX8_near_36 tw_638 (c_X8_joinLofts l G _ _ _ _ _ _ _ (by first | assumption | omega | exact zand_rng _ _ | exact zor_rng _ _ | exact zxor_rng _ _ | exact BT.r (IT.b (by assumption)) _ _) (by first | assumption | omega | exact zand_rng _ _ | exact zor_rng _ _ | exact zxor_rng _ _ | exact BT.r (IT.b (by assumption)) _ _)) 0 0 rfl rfl (ci := 8) rfl rfl rfl (by decide) rfl rfl (Nat.le_of_ble_eq_true rfl) ⟨rfl, rfl, by decide, by decide⟩ ?_
        refine fun o g hq0 _ => ?_
        obtain ⟨rfl, F1, rfl, hjl⟩ := hq0
        show Wc K G _ _ [] (wC G a (up1 X 2 F1) N M P S)
        refine r_iload_n (pc := 39) C 2 dX8_near_39 rfl rfl ?_
        refine r_if_ne (pc := 40) (tgt := 50) C dX8_near_40 (by decide) (by first | omega | exact zand_rng _ _ | exact zor_rng _ _ | exact zxor_rng _ _ | exact BT.r (IT.b (by assumption)) _ _) (fun c40 => ?_) (fun c40 => ?_)
        · refine r_aload_n (pc := 50) C 0 dX8_near_50 rfl rfl ?_
          refine r_callV (pc := 51) (is := [0, 1, 2, 3, 4]) C YX8_richest dX8_near_51 tw_650 (c_X8_richest l G _ (up1 X 2 F1) N M P S v hI hjl) 0 0 rfl rfl (ci := 8) rfl rfl rfl (by decide) rfl rfl (Nat.le_of_ble_eq_true rfl) ⟨rfl, rfl, by decide, by decide⟩ (jst_i (C_uall ..) ?_)
          exact r_iret (pc := 54) C hQ dX8_near_54 rfl (fin_okE (by unfold q_near; (repeat (first | rw [if_pos (by omega)] | rw [if_neg (by omega)])); (try first | rfl | assumption | omega)) (by unfold v_near; first | (rw [if_pos (by omega)]; done) | (rw [if_neg (by omega)]; done)) (by exact congrArg (fun Z => wC G a Z N M P S) (up1_e X F1)))
        · refine r_aload_n (pc := 43) C 0 dX8_near_43 rfl rfl ?_
          refine r_callV (pc := 44) (is := [0, 1, 2, 3, 4]) C YX8_purses dX8_near_44 tw_646 (c_X8_purses l G _ (up1 X 2 F1) N M P S v hI hjl) 0 0 rfl rfl (ci := 8) rfl rfl rfl (by decide) rfl rfl (Nat.le_of_ble_eq_true rfl) ⟨rfl, rfl, by decide, by decide⟩ (jst_i (C_uall ..) ?_)
          refine r_goto (pc := 47) (tgt := 54) C dX8_near_47 (by decide) ?_
          exact r_iret (pc := 54) C hQ dX8_near_54 rfl (fin_okE (by unfold q_near; (repeat (first | rw [if_pos (by omega)] | rw [if_neg (by omega)])); (try first | rfl | assumption | omega)) (by unfold v_near; first | (rw [if_pos (by omega)]; done) | (rw [if_neg (by omega)]; done)) (by exact congrArg (fun Z => wC G a Z N M P S) (up1_e X F1)))
      · refine r_aload_n (pc := 28) C 0 dX8_near_28 rfl rfl ?_
        refine r_iload_n (pc := 29) C 3 dX8_near_29 rfl rfl ?_
        refine r_callV (pc := 30) (is := [0, 1, 2, 3, 4]) C YX8_refuse dX8_near_30 tw_185 (c_X8_refuse l G _ _ _ _ _ _ _ (by first | assumption | omega | exact zand_rng _ _ | exact zor_rng _ _ | exact zxor_rng _ _ | exact BT.r (IT.b (by assumption)) _ _)) 0 0 rfl rfl (ci := 8) rfl rfl rfl (by decide) rfl rfl (Nat.le_of_ble_eq_true rfl) ⟨rfl, rfl, by decide, by decide⟩ (jst_i (C_uall ..) ?_)
        exact r_iret (pc := 33) C hQ dX8_near_33 rfl (fin_noE (by unfold q_near; (repeat (first | rw [if_pos (by omega)] | rw [if_neg (by omega)])); (try first | rfl | assumption | omega)) (by omega) rfl)
    · refine r_iload_n (pc := 16) C 2 dX8_near_16 rfl rfl ?_
      refine r_iconst (pc := 17) C dX8_near_17 ?_
      refine r_icmp_eq (pc := 18) (tgt := 24) C dX8_near_18 (by decide) (by first | omega | exact zand_rng _ _ | exact zor_rng _ _ | exact zxor_rng _ _ | exact BT.r (IT.b (by assumption)) _ _) (by first | omega | exact zand_rng _ _ | exact zor_rng _ _ | exact zxor_rng _ _ | exact BT.r (IT.b (by assumption)) _ _) (fun c18 => ?_) (fun c18 => ?_)
      · refine r_iload_n (pc := 24) C 3 dX8_near_24 rfl rfl ?_
        refine r_if_eq (pc := 25) (tgt := 34) C dX8_near_25 (by decide) (by first | omega | exact zand_rng _ _ | exact zor_rng _ _ | exact zxor_rng _ _ | exact BT.r (IT.b (by assumption)) _ _) (fun c25 => ?_) (fun c25 => ?_)
        · refine r_aload_n (pc := 34) C 0 dX8_near_34 rfl rfl ?_
          refine r_iload_n (pc := 35) C 1 dX8_near_35 rfl rfl ?_
          refine r_callV (pc := 36) (is := [0, 1, 2, 3, 4]) C YX8_joinLofts dX8_near_36 tw_638 (c_X8_joinLofts l G _ _ _ _ _ _ _ (by first | assumption | omega | exact zand_rng _ _ | exact zor_rng _ _ | exact zxor_rng _ _ | exact BT.r (IT.b (by assumption)) _ _) (by first | assumption | omega | exact zand_rng _ _ | exact zor_rng _ _ | exact zxor_rng _ _ | exact BT.r (IT.b (by assumption)) _ _)) 0 0 rfl rfl (ci := 8) rfl rfl rfl (by decide) rfl rfl (Nat.le_of_ble_eq_true rfl) ⟨rfl, rfl, by decide, by decide⟩ ?_
          refine fun o g hq0 _ => ?_
          obtain ⟨rfl, F1, rfl, hjl⟩ := hq0
          show Wc K G _ _ [] (wC G a (up1 X 2 F1) N M P S)
          refine r_iload_n (pc := 39) C 2 dX8_near_39 rfl rfl ?_
          refine r_if_ne (pc := 40) (tgt := 50) C dX8_near_40 (by decide) (by first | omega | exact zand_rng _ _ | exact zor_rng _ _ | exact zxor_rng _ _ | exact BT.r (IT.b (by assumption)) _ _) (fun c40 => ?_) (fun c40 => ?_)
          · refine r_aload_n (pc := 50) C 0 dX8_near_50 rfl rfl ?_
            refine r_callV (pc := 51) (is := [0, 1, 2, 3, 4]) C YX8_richest dX8_near_51 tw_650 (c_X8_richest l G _ (up1 X 2 F1) N M P S v hI hjl) 0 0 rfl rfl (ci := 8) rfl rfl rfl (by decide) rfl rfl (Nat.le_of_ble_eq_true rfl) ⟨rfl, rfl, by decide, by decide⟩ (jst_i (C_uall ..) ?_)
            exact r_iret (pc := 54) C hQ dX8_near_54 rfl (fin_okE (by unfold q_near; (repeat (first | rw [if_pos (by omega)] | rw [if_neg (by omega)])); (try first | rfl | assumption | omega)) (by unfold v_near; first | (rw [if_pos (by omega)]; done) | (rw [if_neg (by omega)]; done)) (by exact congrArg (fun Z => wC G a Z N M P S) (up1_e X F1)))
          · refine r_aload_n (pc := 43) C 0 dX8_near_43 rfl rfl ?_
            refine r_callV (pc := 44) (is := [0, 1, 2, 3, 4]) C YX8_purses dX8_near_44 tw_646 (c_X8_purses l G _ (up1 X 2 F1) N M P S v hI hjl) 0 0 rfl rfl (ci := 8) rfl rfl rfl (by decide) rfl rfl (Nat.le_of_ble_eq_true rfl) ⟨rfl, rfl, by decide, by decide⟩ (jst_i (C_uall ..) ?_)
            refine r_goto (pc := 47) (tgt := 54) C dX8_near_47 (by decide) ?_
            exact r_iret (pc := 54) C hQ dX8_near_54 rfl (fin_okE (by unfold q_near; (repeat (first | rw [if_pos (by omega)] | rw [if_neg (by omega)])); (try first | rfl | assumption | omega)) (by unfold v_near; first | (rw [if_pos (by omega)]; done) | (rw [if_neg (by omega)]; done)) (by exact congrArg (fun Z => wC G a Z N M P S) (up1_e X F1)))
        · refine r_aload_n (pc := 28) C 0 dX8_near_28 rfl rfl ?_
          refine r_iload_n (pc := 29) C 3 dX8_near_29 rfl rfl ?_
          refine r_callV (pc := 30) (is := [0, 1, 2, 3, 4]) C YX8_refuse dX8_near_30 tw_185 (c_X8_refuse l G _ _ _ _ _ _ _ (by first | assumption | omega | exact zand_rng _ _ | exact zor_rng _ _ | exact zxor_rng _ _ | exact BT.r (IT.b (by assumption)) _ _)) 0 0 rfl rfl (ci := 8) rfl rfl rfl (by decide) rfl rfl (Nat.le_of_ble_eq_true rfl) ⟨rfl, rfl, by decide, by decide⟩ (jst_i (C_uall ..) ?_)
          exact r_iret (pc := 33) C hQ dX8_near_33 rfl (fin_noE (by unfold q_near; (repeat (first | rw [if_pos (by omega)] | rw [if_neg (by omega)])); (try first | rfl | assumption | omega)) (by omega) rfl)
      · refine r_bipush (pc := 21) C dX8_near_21 (by decide) ?_
        refine r_istore_n (pc := 23) C 3 dX8_near_23 rfl (Nat.le_of_ble_eq_true rfl) ?_
        refine r_iload_n (pc := 24) C 3 dX8_near_24 rfl rfl ?_
        refine r_if_eq (pc := 25) (tgt := 34) C dX8_near_25 (by decide) (by first | omega | exact zand_rng _ _ | exact zor_rng _ _ | exact zxor_rng _ _ | exact BT.r (IT.b (by assumption)) _ _) (fun c25 => absurd c25 (by omega)) (fun c25 => ?_)
        refine r_aload_n (pc := 28) C 0 dX8_near_28 rfl rfl ?_
        refine r_iload_n (pc := 29) C 3 dX8_near_29 rfl rfl ?_
        refine r_callV (pc := 30) (is := [0, 1, 2, 3, 4]) C YX8_refuse dX8_near_30 tw_185 (c_X8_refuse l G _ _ _ _ _ _ _ (by first | assumption | omega | exact zand_rng _ _ | exact zor_rng _ _ | exact zxor_rng _ _ | exact BT.r (IT.b (by assumption)) _ _)) 0 0 rfl rfl (ci := 8) rfl rfl rfl (by decide) rfl rfl (Nat.le_of_ble_eq_true rfl) ⟨rfl, rfl, by decide, by decide⟩ (jst_i (C_uall ..) ?_)
        exact r_iret (pc := 33) C hQ dX8_near_33 rfl (fin_noE (by unfold q_near; (repeat (first | rw [if_pos (by omega)] | rw [if_neg (by omega)])); (try first | rfl | assumption | omega)) (by omega) rfl)

