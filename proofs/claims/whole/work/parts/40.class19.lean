set_option maxRecDepth 100000 in
set_option maxHeartbeats 4000000 in
theorem c_X5_numberAt (l : Launch) (G : GT) (h : Nat → Nat) (S : Tn) (p : Int) (hs0 : 0 ≤ S 0 0 ∧ S 0 0 ≤ 64) (hsl : ∀ j, 0 ≤ S 1 j ∧ S 1 j ≤ 255) (hp : 0 ≤ p ∧ p ≤ 69) : Cn l yX5_numberAt cX5_numberAt 3 (Option.some .int) ({ frames := 2, cells := 0, slots := 0, locals := 42 }) G [.ref (h 0), .int (iI p)] (wS G h S) (jst (some (.int (iI (if sDg (sg (S 1) (S 0 0) (p + 1)) then 10 * (sg (S 1) (S 0 0) p - 48) + (sg (S 1) (S 0 0) (p + 1) - 48) else sg (S 1) (S 0 0) p - 48)))) (wS G h S)) := by
  refine Cn_in RX5 [some (.ref (h 0)), some (.int (iI p)), none] (by decide +kernel) rfl rfl rfl (Nat.le_of_ble_eq_true rfl) (fun K C hQ => ?_)
  have hsr := sg_r hsl (S 0 0) p
  have hsr2 := sg_r hsl (S 0 0) (p + 1)
  refine r_aload_n (pc := 0) C 0 dX5_numberAt_0 rfl rfl ?_
  refine r_iload_n (pc := 1) C 1 dX5_numberAt_1 rfl rfl ?_
  refine r_callV (pc := 2) (is := [0]) C YX5_digitAt dX5_numberAt_2 tw_358 (c_X5_digitAt l G _ _ _ (by first | assumption | omega | exact zand_rng _ _ | exact zor_rng _ _ | exact zxor_rng _ _ | exact BT.r (IT.b (by assumption)) _ _) (by first | assumption | omega | exact zand_rng _ _ | exact zor_rng _ _ | exact zxor_rng _ _ | exact BT.r (IT.b (by assumption)) _ _)) 0 0 rfl rfl (ci := 5) rfl rfl rfl (by decide) rfl rfl (Nat.le_of_ble_eq_true rfl) ⟨rfl, rfl, by decide, by decide⟩ (jst_i (S_uall ..) ?_)
  refine r_istore_n (pc := 5) C 2 dX5_numberAt_5 rfl (Nat.le_of_ble_eq_true rfl) ?_
  refine r_aload_n (pc := 6) C 0 dX5_numberAt_6 rfl rfl ?_
  refine r_iload_n (pc := 7) C 1 dX5_numberAt_7 rfl rfl ?_
  refine r_iconst (pc := 8) C dX5_numberAt_8 ?_
  refine r_iadd (pc := 9) C dX5_numberAt_9 ?_
  refine r_callV (pc := 10) (is := [0]) C YX5_signAt dX5_numberAt_10 tw_210 (c_X5_signAt l G _ _ _ (by first | assumption | omega | exact zand_rng _ _ | exact zor_rng _ _ | exact zxor_rng _ _ | exact BT.r (IT.b (by assumption)) _ _) (by first | assumption | omega | exact zand_rng _ _ | exact zor_rng _ _ | exact zxor_rng _ _ | exact BT.r (IT.b (by assumption)) _ _)) 0 0 rfl rfl (ci := 5) rfl rfl rfl (by decide) rfl rfl (Nat.le_of_ble_eq_true rfl) ⟨rfl, rfl, by decide, by decide⟩ (jst_i (S_uall ..) ?_)
  refine r_callS (pc := 13) (is := []) C YX5_isDigit dX5_numberAt_13 tw_277 (c_X5_isDigit l G _ (by first | assumption | omega | exact zand_rng _ _ | exact zor_rng _ _ | exact zxor_rng _ _ | exact BT.r (IT.b (by assumption)) _ _)) rfl (by decide) rfl rfl (Nat.le_of_ble_eq_true rfl) ⟨rfl, rfl, by decide, by decide⟩ (jst_i (ups_nil _) ?_)
  refine r_ifb_eq (pc := 16) (tgt := 34) C dX5_numberAt_16 (by decide) (fun c16 => ?_) (fun c16 => ?_)
  · refine r_iload_n (pc := 34) C 2 dX5_numberAt_34 rfl rfl ?_
    exact r_iret (pc := 35) C hQ dX5_numberAt_35 rfl (jst_ri (by first | (rw [if_pos (by assumption)]; done) | (rw [if_neg (by assumption)]; done)) rfl)
  · refine r_bipush (pc := 19) C dX5_numberAt_19 (by decide) ?_
    refine r_iload_n (pc := 21) C 2 dX5_numberAt_21 rfl rfl ?_
    refine r_imul (pc := 22) C dX5_numberAt_22 ?_
    refine r_aload_n (pc := 23) C 0 dX5_numberAt_23 rfl rfl ?_
    refine r_iload_n (pc := 24) C 1 dX5_numberAt_24 rfl rfl ?_
    refine r_iconst (pc := 25) C dX5_numberAt_25 ?_
    refine r_iadd (pc := 26) C dX5_numberAt_26 ?_
    refine r_callV (pc := 27) (is := [0]) C YX5_digitAt dX5_numberAt_27 tw_358 (c_X5_digitAt l G _ _ _ (by first | assumption | omega | exact zand_rng _ _ | exact zor_rng _ _ | exact zxor_rng _ _ | exact BT.r (IT.b (by assumption)) _ _) (by first | assumption | omega | exact zand_rng _ _ | exact zor_rng _ _ | exact zxor_rng _ _ | exact BT.r (IT.b (by assumption)) _ _)) 0 0 rfl rfl (ci := 5) rfl rfl rfl (by decide) rfl rfl (Nat.le_of_ble_eq_true rfl) ⟨rfl, rfl, by decide, by decide⟩ (jst_i (S_uall ..) ?_)
    refine r_iadd (pc := 30) C dX5_numberAt_30 ?_
    refine r_goto (pc := 31) (tgt := 35) C dX5_numberAt_31 (by decide) ?_
    exact r_iret (pc := 35) C hQ dX5_numberAt_35 rfl (jst_ri (by first | (rw [if_pos (by assumption)]; done) | (rw [if_neg (by assumption)]; done)) rfl)

