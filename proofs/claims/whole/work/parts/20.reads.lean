set_option maxRecDepth 100000 in
set_option maxHeartbeats 4000000 in
theorem c_X9_reads (l : Launch) (G : GT) (b : Nat → Nat) (R T : Tn) (hI : IT T) (hn1 : 0 ≤ R 0 1 ∧ R 0 1 ≤ 64) (h6 : ∀ j, 0 ≤ R 6 j ∧ R 6 j ≤ 255) : Cn l yX9_reads cX9_reads 5 (Option.some .int) ({ frames := 3, cells := 0, slots := 0, locals := 66 }) G [.ref (b 0)] (wR G b R T) (aRd G b R T) := by
  refine Cn_in RX9 [some (.ref (b 0)), none, none, none, none] (by decide +kernel) rfl rfl rfl (Nat.le_of_ble_eq_true rfl) (fun K C hQ => ?_)
  have hLs : ∀ j, 0 ≤ R 6 j := fun j => (h6 j).1
  have hsr := fun p => sg_r h6 (R 0 1) p
  have hLL := hI.L
  refine r_aload_n (pc := 0) C 0 dX9_reads_0 rfl rfl ?_
  refine r_iconst (pc := 1) C dX9_reads_1 ?_
  refine r_put (pc := 2) C 0 0 9 dX9_reads_2 in_X9 tyX9_ok nmX9 rfl rfl (ci := 9) rfl (by decide) tw_750 rfl rfl (tyX9_ok 9 (by decide)) rfl rfl (Nat.le_of_ble_eq_true rfl) rfl ((R_p0_9 ..).trans (congrArg (fun z => wR G b z T) (rd_i R 0))) ?_
  refine r_iconst (pc := 5) C dX9_reads_5 ?_
  refine r_istore_n (pc := 6) C 1 dX9_reads_6 rfl (Nat.le_of_ble_eq_true rfl) ?_
  have L7 : ∀ (n : Nat) (p : Int) (F : Int → Int), 0 ≤ p → p < 64 → 64 ≤ p + n → sF (R 6) (R 0 1) n p = sF (R 6) (R 0 1) 64 0 → Wc K G 7 [some (.ref (b 0)), some (.int (iI (sSemi (R 6) p))), none, none, none] [] (wR G b (rd R p F) T) := by
    intro n
    induction n with
    | zero =>
      intro p F h0 h1 h2; omega
    | succ n ih =>
      intro p F h0 h1 h2 hq
      have hs := sF_s (R 6) (R 0 1) n p
      refine r_aload_n (pc := 7) C 0 dX9_reads_7 rfl rfl ?_
      refine r_callV (pc := 8) (is := [0, 1, 2, 3, 4, 5, 6, 7, 8]) C YX9_readsStatement dX9_reads_8 tw_797 (c_X9_readsStatement l G _ _ _ _ _ (by first | assumption | omega | exact zand_rng _ _ | exact zor_rng _ _ | exact zxor_rng _ _ | exact BT.r (IT.b (by assumption)) _ _) (by first | assumption | omega | exact zand_rng _ _ | exact zor_rng _ _ | exact zxor_rng _ _ | exact BT.r (IT.b (by assumption)) _ _) (by first | assumption | omega | exact zand_rng _ _ | exact zor_rng _ _ | exact zxor_rng _ _ | exact BT.r (IT.b (by assumption)) _ _)) 0 0 rfl rfl (ci := 9) rfl rfl rfl (by decide) rfl rfl (Nat.le_of_ble_eq_true rfl) ⟨rfl, rfl, by decide, by decide⟩ ?_
      refine fun o g hq0 _ => ?_
      obtain ⟨rfl, F1, rfl, hF1⟩ := hq0
      show Wc K G _ _ (.int (iI (zb (0 ≤ sE (R 6) (R 0 1) p))) :: _) (wR G b (rd R _ F1) T)
      have hF1 : 0 ≤ sE (R 6) (R 0 1) p → sTl (R 6) (R 0 1) p F1 := hF1
      refine r_ifb_ne (pc := 11) (tgt := 23) C dX9_reads_11 (by decide) (fun c11 => ?_) (fun c11 => ?_)
      · rw [if_pos c11]
        have hr := sE_r h0 hLs c11
        have e2 : rd R (sE (R 6) (R 0 1) p) F1 0 2 = sE (R 6) (R 0 1) p := rfl
        have e1 : rd R (sE (R 6) (R 0 1) p) F1 0 1 = R 0 1 := rfl
        refine r_iinc (pc := 23) C dX9_reads_23 rfl ?_
        refine r_aload_n (pc := 26) C 0 dX9_reads_26 rfl rfl ?_
        refine r_get (pc := 27) C 0 0 9 dX9_reads_27 in_X9 rfl rfl (ci := 9) rfl (by decide) tw_750 rfl rfl ?_
        refine r_aload_n (pc := 30) C 0 dX9_reads_30 rfl rfl ?_
        refine r_get (pc := 31) C 0 0 8 dX9_reads_31 in_X9 rfl rfl (ci := 9) rfl (by decide) tw_749 rfl rfl ?_
        refine r_icmp_lt (pc := 34) (tgt := 7) C dX9_reads_34 (by decide) (by first | omega | exact zand_rng _ _ | exact zor_rng _ _ | exact zxor_rng _ _ | exact BT.r (IT.b (by assumption)) _ _) (by first | omega | exact zand_rng _ _ | exact zor_rng _ _ | exact zxor_rng _ _ | exact BT.r (IT.b (by assumption)) _ _) (fun c34 => ?_) (fun c34 => ?_)
        · refine Wc.to (ih (sE (R 6) (R 0 1) p) F1 (by omega) (by omega) (by omega) (by rw [← hq, hs, if_neg (by omega), if_neg (by omega)])) rfl (lsub_s rfl (lsub_s (by rw [hr.2.2]) (lsub_n (lsub_n (lsub_n lsub_0))))) rfl
        · have hfit0 : sF (R 6) (R 0 1) 64 0 = sE (R 6) (R 0 1) p := by rw [← hq, hs, if_neg (by omega), if_pos (by omega)]
          have heN : sE (R 6) (R 0 1) p = R 0 1 := by omega
          refine r_aload_n (pc := 37) C 0 dX9_reads_37 rfl rfl ?_
          refine r_get (pc := 38) C 0 0 1 dX9_reads_38 in_X9 rfl rfl (ci := 9) rfl (by decide) tw_742 rfl rfl ?_
          refine r_aload_n (pc := 41) C 0 dX9_reads_41 rfl rfl ?_
          refine r_get (pc := 42) C 0 0 3 dX9_reads_42 in_X9 rfl rfl (ci := 9) rfl (by decide) tw_744 rfl rfl ?_
          refine r_callS (pc := 45) (is := [2, 4]) C YX9_lays dX9_reads_45 tw_823 (c_X9_lays l G _ _ _ _) rfl (by decide) rfl rfl (Nat.le_of_ble_eq_true rfl) ⟨rfl, rfl, by decide, by decide⟩ (jst_v (R_u2_4 ..) ?_)
          refine Wc.eq (gs' := wR G b (rq R (sE (R 6) (R 0 1) p) F1 T) T) ?_ rfl rfl rfl (by first | rw [rd_41] | rw [← rd_41])
          refine r_aload_n (pc := 48) C 0 dX9_reads_48 rfl rfl ?_
          refine r_iconst (pc := 49) C dX9_reads_49 ?_
          refine r_put (pc := 50) C 0 0 9 dX9_reads_50 in_X9 tyX9_ok nmX9 rfl rfl (ci := 9) rfl (by decide) tw_750 rfl rfl (tyX9_ok 9 (by decide)) rfl rfl (Nat.le_of_ble_eq_true rfl) rfl (rd_p9 (q := 0) rfl) ?_
          have L53 : ∀ (n : Nat) (p : Int) (F : Int → Int) (U : Tn), 0 ≤ p → p ≤ 64 → 64 < p + n → (p < R 0 1 → ∃ m, 0 ≤ sF (R 6) (R 0 1) m p ∧ 64 ≤ p + m) → sG (R 6) (R 0 1) n p U = sG (R 6) (R 0 1) 65 0 T → IT U → Wc K G 53 [some (.ref (b 0)), some (.int (iI (sSemi (R 6) (R 0 1)))), none, none, none] [] (wR G b (rq R p F U) T) := by
            intro n
            induction n with
            | zero =>
              intro p F U h80 h81 h82; omega
            | succ n ih =>
              intro p F U h80 h81 h82 hfit hq hU
              have e2 : rq R p F U 0 2 = p := rfl
              have e1 : rq R p F U 0 1 = R 0 1 := rfl
              have hs8 := sG_s (R 6) (R 0 1) n p U
              refine r_aload_n (pc := 53) C 0 dX9_reads_53 rfl rfl ?_
              refine r_get (pc := 54) C 0 0 9 dX9_reads_54 in_X9 rfl rfl (ci := 9) rfl (by decide) tw_750 rfl rfl ?_
              refine r_aload_n (pc := 57) C 0 dX9_reads_57 rfl rfl ?_
              refine r_get (pc := 58) C 0 0 8 dX9_reads_58 in_X9 rfl rfl (ci := 9) rfl (by decide) tw_749 rfl rfl ?_
              refine r_icmp_ge (pc := 61) (tgt := 97) C dX9_reads_61 (by decide) (by first | omega | exact zand_rng _ _ | exact zor_rng _ _ | exact zxor_rng _ _ | exact BT.r (IT.b (by assumption)) _ _) (by first | omega | exact zand_rng _ _ | exact zor_rng _ _ | exact zxor_rng _ _ | exact BT.r (IT.b (by assumption)) _ _) (fun c61 => ?_) (fun c61 => ?_)
              · refine r_aload_n (pc := 97) C 0 dX9_reads_97 rfl rfl ?_
                refine r_get (pc := 98) C 0 0 3 dX9_reads_98 in_X9 rfl rfl (ci := 9) rfl (by decide) tw_744 rfl rfl ?_
                refine r_aload_n (pc := 101) C 0 dX9_reads_101 rfl rfl ?_
                refine r_get (pc := 102) C 0 0 1 dX9_reads_102 in_X9 rfl rfl (ci := 9) rfl (by decide) tw_742 rfl rfl ?_
                refine r_callS (pc := 105) (is := [4, 2]) C YX9_lays dX9_reads_105 tw_823 (c_X9_lays l G _ _ _ _) rfl (by decide) rfl rfl (Nat.le_of_ble_eq_true rfl) ⟨rfl, rfl, by decide, by decide⟩ (jst_v (R_ends (Or.inr (Or.inl rfl)) (rfl : rq R p F U 4 = flat U)) ?_)
                refine r_iload_n (pc := 108) C 1 dX9_reads_108 rfl rfl ?_
                have hsg : sG (R 6) (R 0 1) 65 0 T = (p, U) := by rw [← hq, hs8, if_neg (by omega)]
                exact r_iret (pc := 109) C hQ dX9_reads_109 rfl (by exact ⟨by unfold v_town; rw [if_neg (by omega), hsg, if_neg (by show ¬ p < 0; omega)], _, F, flat U, by unfold t_town; rw [if_neg (by omega), hsg, if_neg (by show ¬ p < 0; omega)]⟩)
              · obtain ⟨m, hm1, hm2⟩ := hfit (by omega)
                obtain ⟨m, rfl⟩ : ∃ k, m = k + 1 := ⟨m - 1, by omega⟩
                have hsm := sF_s (R 6) (R 0 1) m p
                have hE : 0 ≤ sE (R 6) (R 0 1) p := by
                  by_cases e : sE (R 6) (R 0 1) p < 0
                  · rw [if_pos e] at hsm; omega
                  · omega
                have hr := sE_r h80 hLs hE
                have hnm := sE_nm h80 hE
                have hfit2 : sE (R 6) (R 0 1) p < R 0 1 → ∃ m, 0 ≤ sF (R 6) (R 0 1) m (sE (R 6) (R 0 1) p) ∧ 64 ≤ sE (R 6) (R 0 1) p + m := fun q => ⟨m, by rw [if_neg (by omega), if_neg (by omega)] at hsm; omega, by omega⟩
                refine r_aload_n (pc := 64) C 0 dX9_reads_64 rfl rfl ?_
                refine r_get (pc := 65) C 0 0 9 dX9_reads_65 in_X9 rfl rfl (ci := 9) rfl (by decide) tw_750 rfl rfl ?_
                refine r_istore_n (pc := 68) C 2 dX9_reads_68 rfl (Nat.le_of_ble_eq_true rfl) ?_
                refine r_aload_n (pc := 69) C 0 dX9_reads_69 rfl rfl ?_
                refine r_callV (pc := 70) (is := [0, 1, 2, 3, 4, 5, 6, 7, 8]) C YX9_sign dX9_reads_70 tw_801 (c_X9_sign l G _ (up1 R 4 (flat U)) _ p F hn1 h6 ⟨by omega, by omega⟩) 0 0 rfl rfl (ci := 9) rfl rfl rfl (by decide) rfl rfl (Nat.le_of_ble_eq_true rfl) ⟨rfl, rfl, by decide, by decide⟩ (jst_i (R_uall ..) ?_)
                show Wc K G _ _ (.int (iI (sg (R 6) (R 0 1) p)) :: _) (wR G b (rd (up1 R 4 (flat U)) p F) T)
                refine r_istore_n (pc := 73) C 3 dX9_reads_73 rfl (Nat.le_of_ble_eq_true rfl) ?_
                refine r_aload_n (pc := 74) C 0 dX9_reads_74 rfl rfl ?_
                refine r_callV (pc := 75) (is := [0, 1, 2, 3, 4, 5, 6, 7, 8]) C YX9_readsStatement dX9_reads_75 tw_797 (c_X9_readsStatement l G _ (up1 R 4 (flat U)) _ p F hn1 h6 ⟨by omega, by omega⟩) 0 0 rfl rfl (ci := 9) rfl rfl rfl (by decide) rfl rfl (Nat.le_of_ble_eq_true rfl) ⟨rfl, rfl, by decide, by decide⟩ ?_
                refine fun o g hq0 _ => ?_
                obtain ⟨rfl, F1, rfl, hF1⟩ := hq0
                show Wc K G _ _ (.int (iI (zb (0 ≤ sE (R 6) (R 0 1) p))) :: _) (wR G b (rd (up1 R 4 (flat U)) (if 0 ≤ sE (R 6) (R 0 1) p then sE (R 6) (R 0 1) p else -1 - sE (R 6) (R 0 1) p) F1) T)
                have hF1 : 0 ≤ sE (R 6) (R 0 1) p → sTl (R 6) (R 0 1) p F1 := hF1
                rw [if_pos hE]
                refine r_istore (pc := 78) C dX9_reads_78 (Nat.le_of_ble_eq_true rfl) ?_
                refine r_aload_n (pc := 80) C 0 dX9_reads_80 rfl rfl ?_
                refine r_iload_n (pc := 81) C 3 dX9_reads_81 rfl rfl ?_
                refine r_callV (pc := 82) (is := [0, 1, 2, 3, 4, 5, 6, 7, 8]) C YX9_comes dX9_reads_82 tw_826 (c_X9_comes l G _ _ _ _ p F1 U hU (hF1 hE) hnm (by have := hsr p; omega)) 0 0 rfl rfl (ci := 9) rfl rfl rfl (by decide) rfl rfl (Nat.le_of_ble_eq_true rfl) ⟨rfl, rfl, by decide, by decide⟩ (jst_i (R_uall ..) ?_)
                have hzz := zc_r (sOk (R 6) (R 0 1) p U)
                refine r_if_ne (pc := 85) (tgt := 94) C dX9_reads_85 (by decide) (by first | omega | exact zand_rng _ _ | exact zor_rng _ _ | exact zxor_rng _ _ | exact BT.r (IT.b (by assumption)) _ _) (fun c85 => ?_) (fun c85 => ?_)
                · rw [if_pos (by omega)]
                  refine r_goto (pc := 94) (tgt := 53) C dX9_reads_94 (by decide) ?_
                  refine Wc.to (ih (sE (R 6) (R 0 1) p) F1 (sTo (R 6) (R 0 1) p U) (by omega) (by omega) (by omega) hfit2 (by rw [← hq, hs8, if_pos (by omega), if_pos (by omega)]) (IT_to hU hnm (by omega))) rfl (lsub_s rfl (lsub_s rfl (lsub_n (lsub_n (lsub_n lsub_0))))) rfl
                · rw [if_neg (by omega)]
                  refine r_sipush (pc := 88) C dX9_reads_88 (by decide) ?_
                  refine r_iload_n (pc := 91) C 2 dX9_reads_91 rfl rfl ?_
                  refine r_isub (pc := 92) C dX9_reads_92 ?_
                  have hsg : sG (R 6) (R 0 1) 65 0 T = (-1 - p, U) := by rw [← hq, hs8, if_pos (by omega), if_neg (by omega)]
                  exact r_iret (pc := 93) C hQ dX9_reads_93 rfl (by exact ⟨by unfold v_town; rw [if_neg (by omega), hsg, if_pos (by show -1 - p < 0; omega)]; congr 3; show _ = -1999 + (-1 - p); omega, _, F1, flat U, by unfold t_town; rw [if_neg (by omega), hsg, if_pos (by show -1 - p < 0; omega)]⟩)
          refine Wc.to (L53 65 0 F1 T (by omega) (by omega) (by omega) (fun _ => ⟨64, by omega, by omega⟩) rfl hI) rfl (lsub_s rfl (lsub_s (by rw [show R 0 1 = sE (R 6) (R 0 1) p by omega, hr.2.2]) (lsub_n (lsub_n (lsub_n lsub_0))))) rfl
      · rw [if_neg c11]
        have e2 : rd R (-1 - sE (R 6) (R 0 1) p) F1 0 2 = -1 - sE (R 6) (R 0 1) p := rfl
        refine r_sipush (pc := 14) C dX9_reads_14 (by decide) ?_
        refine r_aload_n (pc := 17) C 0 dX9_reads_17 rfl rfl ?_
        refine r_get (pc := 18) C 0 0 9 dX9_reads_18 in_X9 rfl rfl (ci := 9) rfl (by decide) tw_750 rfl rfl ?_
        refine r_isub (pc := 21) C dX9_reads_21 ?_
        have hfit0 : sF (R 6) (R 0 1) 64 0 = sE (R 6) (R 0 1) p := by rw [← hq, hs, if_pos (by omega)]
        exact r_iret (pc := 22) C hQ dX9_reads_22 rfl (by exact ⟨by unfold v_town; rw [if_pos (by omega), hfit0]; congr 3; omega, _, F1, R 4, by unfold t_town; rw [if_pos (by omega), up1_id]⟩)
  refine Wc.to (L7 64 0 (R 7) (by omega) (by omega) (by omega) rfl) rfl (lsub_s rfl (lsub_s rfl (lsub_n (lsub_n (lsub_n lsub_0))))) rfl

set_option maxRecDepth 100000 in
set_option maxHeartbeats 4000000 in
theorem c_X9_town (l : Launch) (G : GT) (b : Nat → Nat) (R T : Tn) (hI : IT T) (hn1 : 0 ≤ R 0 1 ∧ R 0 1 ≤ 64) (h6 : ∀ j, 0 ≤ R 6 j ∧ R 6 j ≤ 255) : Cn l yX9_town cX9_town 2 (Option.some .int) ({ frames := 4, cells := 0, slots := 0, locals := 90 }) G [.ref (b 0)] (wR G b R T) (aTown G b R T) := by
  refine Cn_in RX9 [some (.ref (b 0)), none] (by decide +kernel) rfl rfl rfl (Nat.le_of_ble_eq_true rfl) (fun K C hQ => ?_)
  refine r_aload_n (pc := 0) C 0 dX9_town_0 rfl rfl ?_
  refine r_callV (pc := 1) (is := [0, 1, 2, 3, 4, 5, 6, 7, 8]) C YX9_reads dX9_town_1 tw_793 (c_X9_reads l G _ _ _ (by first | assumption | omega | exact zand_rng _ _ | exact zor_rng _ _ | exact zxor_rng _ _ | exact BT.r (IT.b (by assumption)) _ _) (by first | assumption | omega | exact zand_rng _ _ | exact zor_rng _ _ | exact zxor_rng _ _ | exact BT.r (IT.b (by assumption)) _ _) (by first | assumption | omega | exact zand_rng _ _ | exact zor_rng _ _ | exact zxor_rng _ _ | exact BT.r (IT.b (by assumption)) _ _)) 0 0 rfl rfl (ci := 9) rfl rfl rfl (by decide) rfl rfl (Nat.le_of_ble_eq_true rfl) ⟨rfl, rfl, by decide, by decide⟩ ?_
  refine fun o g hq0 _ => ?_
  obtain ⟨rfl, q, F1, F4, rfl⟩ := hq0
  show Wc K G _ _ (.int (iI (v_town (R 6) (R 0 1) T)) :: _) (wR G b (rd (up1 R 4 F4) q F1) (t_town (R 6) (R 0 1) T))
  refine r_istore_n (pc := 4) C 1 dX9_town_4 rfl (Nat.le_of_ble_eq_true rfl) ?_
  refine r_aload_n (pc := 5) C 0 dX9_town_5 rfl rfl ?_
  refine r_iconst (pc := 6) C dX9_town_6 ?_
  refine r_put (pc := 7) C 0 0 8 dX9_town_7 in_X9 tyX9_ok nmX9 rfl rfl (ci := 9) rfl (by decide) tw_749 rfl rfl (tyX9_ok 8 (by decide)) rfl rfl (Nat.le_of_ble_eq_true rfl) rfl (R_p0_8 ..) ?_
  refine r_iload_n (pc := 10) C 1 dX9_town_10 rfl rfl ?_
  exact r_iret (pc := 11) C hQ dX9_town_11 rfl (by exact ⟨rfl, _, rfl, rfl, rfl, rfl, rfl, rfl, rfl, rfl⟩)

