set_option maxRecDepth 100000 in
set_option maxHeartbeats 4000000 in
theorem c_X9_cheapest (l : Launch) (G : GT) (b : Nat → Nat) (R T : Tn) (f t m k : Int) (hI : IT T) (hR : IR R) (hk9 : T 0 4 ≤ 999) (gf : -2147483648 ≤ f ∧ f < 2147483648) (gt : -2147483648 ≤ t ∧ t < 2147483648) (gm : -2147483648 ≤ m ∧ m < 2147483648) (gk : -2147483648 ≤ k ∧ k < 2147483648) : Cn l yX9_cheapest cX9_cheapest 10 (Option.some .int) ({ frames := 8, cells := 0, slots := 0, locals := 181 }) G [.ref (b 0), .int (iI f), .int (iI t), .int (iI m), .int (iI k)] (wR G b R T) (jst (some (.int (iI (zans (q_cheap T f t m k) ((sCheap T f t m k (zp2 (T 0 1))).1))))) (wR G b (zif (q_cheap T f t m k) (up1 R 5 (flat T)) (rfs R (q_cheap T f t m k))) (zif (q_cheap T f t m k) (T) T))) := by
  refine Cn_in RX9 [some (.ref (b 0)), some (.int (iI f)), some (.int (iI t)), some (.int (iI m)), some (.int (iI k)), none, none, none, none, none] (by decide +kernel) rfl rfl rfl (Nat.le_of_ble_eq_true rfl) (fun K C hQ => ?_)
  obtain ⟨r0, r1, r3, r6, r8⟩ := hR
  have hBB := hI.b
  have hLL := hI.L
  have hDD := hI.D
  have hkk := hI.k
  have hzp := zp2_r (L := T 0 1) (by omega)
  refine r_aload_n (pc := 0) C 0 dX9_cheapest_0 rfl rfl ?_
  refine r_iload_n (pc := 1) C 1 dX9_cheapest_1 rfl rfl ?_
  refine r_callV (pc := 2) (is := [0, 1, 2, 3, 4, 5, 6, 7, 8]) C YX9_isLoft dX9_cheapest_2 tw_834 (c_X9_isLoft l G _ _ _ _ (by first | assumption | omega | exact zand_rng _ _ | exact zor_rng _ _ | exact zxor_rng _ _ | exact BT.r (IT.b (by assumption)) _ _) (by first | assumption | omega | exact zand_rng _ _ | exact zor_rng _ _ | exact zxor_rng _ _ | exact BT.r (IT.b (by assumption)) _ _)) 0 0 rfl rfl (ci := 9) rfl rfl rfl (by decide) rfl rfl (Nat.le_of_ble_eq_true rfl) ⟨rfl, rfl, by decide, by decide⟩ (jst_i (R_uall ..) ?_)
  refine r_ifb_eq (pc := 5) (tgt := 21) C dX9_cheapest_5 (by decide) (fun c5 => ?_) (fun c5 => ?_)
  · refine r_iconst (pc := 21) C dX9_cheapest_21 ?_
    refine r_goto (pc := 22) (tgt := 59) C dX9_cheapest_22 (by decide) ?_
    refine r_istore (pc := 59) C dX9_cheapest_59 (Nat.le_of_ble_eq_true rfl) ?_
    refine r_iload (pc := 61) C dX9_cheapest_61 rfl ?_
    refine r_if_eq (pc := 63) (tgt := 73) C dX9_cheapest_63 (by decide) (by first | omega | exact zand_rng _ _ | exact zor_rng _ _ | exact zxor_rng _ _ | exact BT.r (IT.b (by assumption)) _ _) (fun c63 => absurd c63 (by omega)) (fun c63 => ?_)
    refine r_aload_n (pc := 66) C 0 dX9_cheapest_66 rfl rfl ?_
    refine r_iload (pc := 67) C dX9_cheapest_67 rfl ?_
    refine r_callV (pc := 69) (is := [0, 1, 2, 3, 4, 5, 6, 7, 8]) C YX9_refuse dX9_cheapest_69 tw_785 (c_X9_refuse l G _ _ _ _ (by first | assumption | omega | exact zand_rng _ _ | exact zor_rng _ _ | exact zxor_rng _ _ | exact BT.r (IT.b (by assumption)) _ _)) 0 0 rfl rfl (ci := 9) rfl rfl rfl (by decide) rfl rfl (Nat.le_of_ble_eq_true rfl) ⟨rfl, rfl, by decide, by decide⟩ (jst_i (R_uall ..) ?_)
    exact r_iret (pc := 72) C hQ dX9_cheapest_72 rfl (fin_noR (by unfold q_cheap; (repeat (first | rw [if_pos (by omega)] | rw [if_neg (by omega)])); (try first | rfl | assumption | omega)) (by omega) rfl)
  · refine r_aload_n (pc := 8) C 0 dX9_cheapest_8 rfl rfl ?_
    refine r_iload_n (pc := 9) C 2 dX9_cheapest_9 rfl rfl ?_
    refine r_callV (pc := 10) (is := [0, 1, 2, 3, 4, 5, 6, 7, 8]) C YX9_isLoft dX9_cheapest_10 tw_834 (c_X9_isLoft l G _ _ _ _ (by first | assumption | omega | exact zand_rng _ _ | exact zor_rng _ _ | exact zxor_rng _ _ | exact BT.r (IT.b (by assumption)) _ _) (by first | assumption | omega | exact zand_rng _ _ | exact zor_rng _ _ | exact zxor_rng _ _ | exact BT.r (IT.b (by assumption)) _ _)) 0 0 rfl rfl (ci := 9) rfl rfl rfl (by decide) rfl rfl (Nat.le_of_ble_eq_true rfl) ⟨rfl, rfl, by decide, by decide⟩ (jst_i (R_uall ..) ?_)
    refine r_ifb_eq (pc := 13) (tgt := 21) C dX9_cheapest_13 (by decide) (fun c13 => ?_) (fun c13 => ?_)
    · refine r_iconst (pc := 21) C dX9_cheapest_21 ?_
      refine r_goto (pc := 22) (tgt := 59) C dX9_cheapest_22 (by decide) ?_
      refine r_istore (pc := 59) C dX9_cheapest_59 (Nat.le_of_ble_eq_true rfl) ?_
      refine r_iload (pc := 61) C dX9_cheapest_61 rfl ?_
      refine r_if_eq (pc := 63) (tgt := 73) C dX9_cheapest_63 (by decide) (by first | omega | exact zand_rng _ _ | exact zor_rng _ _ | exact zxor_rng _ _ | exact BT.r (IT.b (by assumption)) _ _) (fun c63 => absurd c63 (by omega)) (fun c63 => ?_)
      refine r_aload_n (pc := 66) C 0 dX9_cheapest_66 rfl rfl ?_
      refine r_iload (pc := 67) C dX9_cheapest_67 rfl ?_
      refine r_callV (pc := 69) (is := [0, 1, 2, 3, 4, 5, 6, 7, 8]) C YX9_refuse dX9_cheapest_69 tw_785 (c_X9_refuse l G _ _ _ _ (by first | assumption | omega | exact zand_rng _ _ | exact zor_rng _ _ | exact zxor_rng _ _ | exact BT.r (IT.b (by assumption)) _ _)) 0 0 rfl rfl (ci := 9) rfl rfl rfl (by decide) rfl rfl (Nat.le_of_ble_eq_true rfl) ⟨rfl, rfl, by decide, by decide⟩ (jst_i (R_uall ..) ?_)
      exact r_iret (pc := 72) C hQ dX9_cheapest_72 rfl (fin_noR (by unfold q_cheap; (repeat (first | rw [if_pos (by omega)] | rw [if_neg (by omega)])); (try first | rfl | assumption | omega)) (by omega) rfl)
    · refine r_iload_n (pc := 16) C 1 dX9_cheapest_16 rfl rfl ?_
      refine r_iload_n (pc := 17) C 2 dX9_cheapest_17 rfl rfl ?_
      refine r_icmp_ne (pc := 18) (tgt := 25) C dX9_cheapest_18 (by decide) (by first | omega | exact zand_rng _ _ | exact zor_rng _ _ | exact zxor_rng _ _ | exact BT.r (IT.b (by assumption)) _ _) (by first | omega | exact zand_rng _ _ | exact zor_rng _ _ | exact zxor_rng _ _ | exact BT.r (IT.b (by assumption)) _ _) (fun c18 => ?_) (fun c18 => ?_)
      · refine r_iload_n (pc := 25) C 3 dX9_cheapest_25 rfl rfl ?_
        refine r_if_lt (pc := 26) (tgt := 34) C dX9_cheapest_26 (by decide) (by first | omega | exact zand_rng _ _ | exact zor_rng _ _ | exact zxor_rng _ _ | exact BT.r (IT.b (by assumption)) _ _) (fun c26 => ?_) (fun c26 => ?_)
        · refine r_bipush (pc := 34) C dX9_cheapest_34 (by decide) ?_
          refine r_goto (pc := 36) (tgt := 59) C dX9_cheapest_36 (by decide) ?_
          refine r_istore (pc := 59) C dX9_cheapest_59 (Nat.le_of_ble_eq_true rfl) ?_
          refine r_iload (pc := 61) C dX9_cheapest_61 rfl ?_
          refine r_if_eq (pc := 63) (tgt := 73) C dX9_cheapest_63 (by decide) (by first | omega | exact zand_rng _ _ | exact zor_rng _ _ | exact zxor_rng _ _ | exact BT.r (IT.b (by assumption)) _ _) (fun c63 => absurd c63 (by omega)) (fun c63 => ?_)
          refine r_aload_n (pc := 66) C 0 dX9_cheapest_66 rfl rfl ?_
          refine r_iload (pc := 67) C dX9_cheapest_67 rfl ?_
          refine r_callV (pc := 69) (is := [0, 1, 2, 3, 4, 5, 6, 7, 8]) C YX9_refuse dX9_cheapest_69 tw_785 (c_X9_refuse l G _ _ _ _ (by first | assumption | omega | exact zand_rng _ _ | exact zor_rng _ _ | exact zxor_rng _ _ | exact BT.r (IT.b (by assumption)) _ _)) 0 0 rfl rfl (ci := 9) rfl rfl rfl (by decide) rfl rfl (Nat.le_of_ble_eq_true rfl) ⟨rfl, rfl, by decide, by decide⟩ (jst_i (R_uall ..) ?_)
          exact r_iret (pc := 72) C hQ dX9_cheapest_72 rfl (fin_noR (by unfold q_cheap; (repeat (first | rw [if_pos (by omega)] | rw [if_neg (by omega)])); (try first | rfl | assumption | omega)) (by omega) rfl)
        · refine r_iload (pc := 29) C dX9_cheapest_29 rfl ?_
          refine r_if_ge (pc := 31) (tgt := 39) C dX9_cheapest_31 (by decide) (by first | omega | exact zand_rng _ _ | exact zor_rng _ _ | exact zxor_rng _ _ | exact BT.r (IT.b (by assumption)) _ _) (fun c31 => ?_) (fun c31 => ?_)
          · refine r_iload_n (pc := 39) C 3 dX9_cheapest_39 rfl rfl ?_
            refine r_sipush (pc := 40) C dX9_cheapest_40 (by decide) ?_
            refine r_icmp_gt (pc := 43) (tgt := 53) C dX9_cheapest_43 (by decide) (by first | omega | exact zand_rng _ _ | exact zor_rng _ _ | exact zxor_rng _ _ | exact BT.r (IT.b (by assumption)) _ _) (by first | omega | exact zand_rng _ _ | exact zor_rng _ _ | exact zxor_rng _ _ | exact BT.r (IT.b (by assumption)) _ _) (fun c43 => ?_) (fun c43 => ?_)
            · refine r_bipush (pc := 53) C dX9_cheapest_53 (by decide) ?_
              refine r_goto (pc := 55) (tgt := 59) C dX9_cheapest_55 (by decide) ?_
              refine r_istore (pc := 59) C dX9_cheapest_59 (Nat.le_of_ble_eq_true rfl) ?_
              refine r_iload (pc := 61) C dX9_cheapest_61 rfl ?_
              refine r_if_eq (pc := 63) (tgt := 73) C dX9_cheapest_63 (by decide) (by first | omega | exact zand_rng _ _ | exact zor_rng _ _ | exact zxor_rng _ _ | exact BT.r (IT.b (by assumption)) _ _) (fun c63 => absurd c63 (by omega)) (fun c63 => ?_)
              refine r_aload_n (pc := 66) C 0 dX9_cheapest_66 rfl rfl ?_
              refine r_iload (pc := 67) C dX9_cheapest_67 rfl ?_
              refine r_callV (pc := 69) (is := [0, 1, 2, 3, 4, 5, 6, 7, 8]) C YX9_refuse dX9_cheapest_69 tw_785 (c_X9_refuse l G _ _ _ _ (by first | assumption | omega | exact zand_rng _ _ | exact zor_rng _ _ | exact zxor_rng _ _ | exact BT.r (IT.b (by assumption)) _ _)) 0 0 rfl rfl (ci := 9) rfl rfl rfl (by decide) rfl rfl (Nat.le_of_ble_eq_true rfl) ⟨rfl, rfl, by decide, by decide⟩ (jst_i (R_uall ..) ?_)
              exact r_iret (pc := 72) C hQ dX9_cheapest_72 rfl (fin_noR (by unfold q_cheap; (repeat (first | rw [if_pos (by omega)] | rw [if_neg (by omega)])); (try first | rfl | assumption | omega)) (by omega) rfl)
            · refine r_iload (pc := 46) C dX9_cheapest_46 rfl ?_
              refine r_bipush (pc := 48) C dX9_cheapest_48 (by decide) ?_
              refine r_icmp_le (pc := 50) (tgt := 58) C dX9_cheapest_50 (by decide) (by first | omega | exact zand_rng _ _ | exact zor_rng _ _ | exact zxor_rng _ _ | exact BT.r (IT.b (by assumption)) _ _) (by first | omega | exact zand_rng _ _ | exact zor_rng _ _ | exact zxor_rng _ _ | exact BT.r (IT.b (by assumption)) _ _) (fun c50 => ?_) (fun c50 => ?_)
              · refine r_iconst (pc := 58) C dX9_cheapest_58 ?_
                refine r_istore (pc := 59) C dX9_cheapest_59 (Nat.le_of_ble_eq_true rfl) ?_
                refine r_iload (pc := 61) C dX9_cheapest_61 rfl ?_
                refine r_if_eq (pc := 63) (tgt := 73) C dX9_cheapest_63 (by decide) (by first | omega | exact zand_rng _ _ | exact zor_rng _ _ | exact zxor_rng _ _ | exact BT.r (IT.b (by assumption)) _ _) (fun c63 => ?_) (fun c63 => absurd c63 (by omega))
                refine r_bipush (pc := 73) C dX9_cheapest_73 (by decide) ?_
                refine r_istore (pc := 75) C dX9_cheapest_75 (Nat.le_of_ble_eq_true rfl) ?_
                refine r_iconst (pc := 77) C dX9_cheapest_77 ?_
                refine r_istore (pc := 78) C dX9_cheapest_78 (Nat.le_of_ble_eq_true rfl) ?_
                refine r_iconst (pc := 80) C dX9_cheapest_80 ?_
                refine r_istore (pc := 81) C dX9_cheapest_81 (Nat.le_of_ble_eq_true rfl) ?_
                have L83 : ∀ (n : Nat) (i : Int), 0 ≤ i → i ≤ zp2 (T 0 1) → zp2 (T 0 1) < i + n → Wc K G 83 [some (.ref (b 0)), some (.int (iI f)), some (.int (iI t)), some (.int (iI m)), some (.int (iI k)), none, some (.int (iI (sCheap T f t m k i).1)), some (.int (iI (sCheap T f t m k i).2)), some (.int (iI i)), none] [] (wR G b (if i = 0 then R else up1 R 5 (flat T)) T) := by
                  intro n
                  induction n with
                  | zero =>
                    intro i h0 h1 hn; omega
                  | succ n ih =>
                    intro i h0 h1 hn 
                    have hch := sCheap_r hI f t m k h0
                    have hww := sWorth_r hI i hDD.1 (Int.le_refl _)
                    have hz1 := zc_r (sAllIn T i f)
                    have hi0 : i = 0 → zc (sAllIn T i f) = 1 ∧ (sCheap T f t m k i).1 < 0 := fun e => by subst e; exact ⟨zc_t (fun d _ _ e => by rw [zbit_0] at e; exact absurd e (by decide)), (by decide : (-9 : Int) < 0)⟩
                    have hR1 : wR G b (up1 (if i = 0 then R else up1 R 5 (flat T)) 5 (flat T)) T = wR G b (if i + 1 = 0 then R else up1 R 5 (flat T)) T := by
                      rw [if_neg (show ¬ i + 1 = 0 by omega)]; by_cases e : i = 0
                      · rw [if_pos e]
                      · rw [if_neg e, up1_up1]
                    have hR2 : i ≠ 0 → wR G b (if i = 0 then R else up1 R 5 (flat T)) T = wR G b (if i + 1 = 0 then R else up1 R 5 (flat T)) T := fun e => by rw [if_neg (show ¬ i + 1 = 0 by omega), if_neg e]
                    refine r_iload (pc := 83) C dX9_cheapest_83 rfl ?_
                    refine r_iconst (pc := 85) C dX9_cheapest_85 ?_
                    refine r_aload_n (pc := 86) C 0 dX9_cheapest_86 rfl rfl ?_
                    refine r_get (pc := 87) C 0 0 1 dX9_cheapest_87 in_X9 rfl rfl (ci := 9) rfl (by decide) tw_742 rfl rfl ?_
                    refine r_iconst (pc := 90) C dX9_cheapest_90 ?_
                    refine r_ialoadE (pc := 91) C 2 0 dX9_cheapest_91 rfl rfl (by decide) (by omega) (flat_0 _ (by decide)) ?_
                    refine r_ishl (pc := 92) C dX9_cheapest_92 (by omega) ?_
                    refine r_icmp_ge (pc := 93) (tgt := 168) C dX9_cheapest_93 (by decide) (by first | omega | exact zand_rng _ _ | exact zor_rng _ _ | exact zxor_rng _ _ | exact BT.r (IT.b (by assumption)) _ _) (by first | omega | exact zand_rng _ _ | exact zor_rng _ _ | exact zxor_rng _ _ | exact BT.r (IT.b (by assumption)) _ _) (fun c93 => ?_) (fun c93 => ?_)
                    · obtain rfl : i = zp2 (T 0 1) := by omega
                      refine r_iload (pc := 168) C dX9_cheapest_168 rfl ?_
                      exact r_iret (pc := 170) C hQ dX9_cheapest_170 rfl (fin_okR (by unfold q_cheap; (repeat (first | rw [if_pos (by omega)] | rw [if_neg (by omega)])); (try first | rfl | assumption | omega)) (by rfl) (by rw [if_neg (by omega)]))
                    · refine r_aload_n (pc := 96) C 0 dX9_cheapest_96 rfl rfl ?_
                      refine r_iload (pc := 97) C dX9_cheapest_97 rfl ?_
                      refine r_iload_n (pc := 99) C 1 dX9_cheapest_99 rfl rfl ?_
                      refine r_callV (pc := 100) (is := [0, 1, 2, 3, 4, 5, 6, 7, 8]) C YX9_areAllIn dX9_cheapest_100 tw_966 (c_X9_areAllIn l G _ _ _ _ _ (by first | assumption | omega | exact zand_rng _ _ | exact zor_rng _ _ | exact zxor_rng _ _ | exact BT.r (IT.b (by assumption)) _ _) (by first | assumption | omega | exact zand_rng _ _ | exact zor_rng _ _ | exact zxor_rng _ _ | exact BT.r (IT.b (by assumption)) _ _) (by first | assumption | omega | exact zand_rng _ _ | exact zor_rng _ _ | exact zxor_rng _ _ | exact BT.r (IT.b (by assumption)) _ _)) 0 0 rfl rfl (ci := 9) rfl rfl rfl (by decide) rfl rfl (Nat.le_of_ble_eq_true rfl) ⟨rfl, rfl, by decide, by decide⟩ (jst_i (R_uall ..) ?_)
                      refine r_if_eq (pc := 103) (tgt := 126) C dX9_cheapest_103 (by decide) (by first | omega | exact zand_rng _ _ | exact zor_rng _ _ | exact zxor_rng _ _ | exact BT.r (IT.b (by assumption)) _ _) (fun c103 => ?_) (fun c103 => ?_)
                      · refine r_iconst (pc := 126) C dX9_cheapest_126 ?_
                        refine r_istore (pc := 127) C dX9_cheapest_127 (Nat.le_of_ble_eq_true rfl) ?_
                        refine r_iload (pc := 129) C dX9_cheapest_129 rfl ?_
                        refine r_if_eq (pc := 131) (tgt := 162) C dX9_cheapest_131 (by decide) (by first | omega | exact zand_rng _ _ | exact zor_rng _ _ | exact zxor_rng _ _ | exact BT.r (IT.b (by assumption)) _ _) (fun c131 => ?_) (fun c131 => absurd c131 (by omega))
                        refine r_iinc (pc := 162) C dX9_cheapest_162 rfl ?_
                        refine r_goto (pc := 165) (tgt := 83) C dX9_cheapest_165 (by decide) ?_
                        refine Wc.to (ih (i + 1) (by omega) (by omega) (by omega) ) rfl (lsub_s (by first | rfl | (rw [sCheap_s T f t m k h0]; first | (rw [if_pos (by omega)]; done) | (rw [if_neg (by omega)]; done) | (rw [if_pos (by omega)]; rfl) | (rw [if_neg (by omega)]; rfl))) (lsub_s (by first | rfl | (rw [sCheap_s T f t m k h0]; first | (rw [if_pos (by omega)]; done) | (rw [if_neg (by omega)]; done) | (rw [if_pos (by omega)]; rfl) | (rw [if_neg (by omega)]; rfl))) (lsub_s (by first | rfl | (rw [sCheap_s T f t m k h0]; first | (rw [if_pos (by omega)]; done) | (rw [if_neg (by omega)]; done) | (rw [if_pos (by omega)]; rfl) | (rw [if_neg (by omega)]; rfl))) (lsub_s (by first | rfl | (rw [sCheap_s T f t m k h0]; first | (rw [if_pos (by omega)]; done) | (rw [if_neg (by omega)]; done) | (rw [if_pos (by omega)]; rfl) | (rw [if_neg (by omega)]; rfl))) (lsub_s (by first | rfl | (rw [sCheap_s T f t m k h0]; first | (rw [if_pos (by omega)]; done) | (rw [if_neg (by omega)]; done) | (rw [if_pos (by omega)]; rfl) | (rw [if_neg (by omega)]; rfl))) (lsub_n (lsub_s (by first | rfl | (rw [sCheap_s T f t m k h0]; first | (rw [if_pos (by omega)]; done) | (rw [if_neg (by omega)]; done) | (rw [if_pos (by omega)]; rfl) | (rw [if_neg (by omega)]; rfl))) (lsub_s (by first | rfl | (rw [sCheap_s T f t m k h0]; first | (rw [if_pos (by omega)]; done) | (rw [if_neg (by omega)]; done) | (rw [if_pos (by omega)]; rfl) | (rw [if_neg (by omega)]; rfl))) (lsub_s (by first | rfl | (rw [sCheap_s T f t m k h0]; first | (rw [if_pos (by omega)]; done) | (rw [if_neg (by omega)]; done) | (rw [if_pos (by omega)]; rfl) | (rw [if_neg (by omega)]; rfl))) (lsub_n lsub_0)))))))))) (by first | exact hR1 | exact hR2 (by omega))
                      · refine r_iload (pc := 106) C dX9_cheapest_106 rfl ?_
                        refine r_if_lt (pc := 108) (tgt := 122) C dX9_cheapest_108 (by decide) (by first | omega | exact zand_rng _ _ | exact zor_rng _ _ | exact zxor_rng _ _ | exact BT.r (IT.b (by assumption)) _ _) (fun c108 => ?_) (fun c108 => ?_)
                        · refine r_iconst (pc := 122) C dX9_cheapest_122 ?_
                          refine r_goto (pc := 123) (tgt := 127) C dX9_cheapest_123 (by decide) ?_
                          refine r_istore (pc := 127) C dX9_cheapest_127 (Nat.le_of_ble_eq_true rfl) ?_
                          refine r_iload (pc := 129) C dX9_cheapest_129 rfl ?_
                          refine r_if_eq (pc := 131) (tgt := 162) C dX9_cheapest_131 (by decide) (by first | omega | exact zand_rng _ _ | exact zor_rng _ _ | exact zxor_rng _ _ | exact BT.r (IT.b (by assumption)) _ _) (fun c131 => absurd c131 (by omega)) (fun c131 => ?_)
                          refine r_aload_n (pc := 134) C 0 dX9_cheapest_134 rfl rfl ?_
                          refine r_iload (pc := 135) C dX9_cheapest_135 rfl ?_
                          refine r_iload_n (pc := 137) C 2 dX9_cheapest_137 rfl rfl ?_
                          refine r_iload (pc := 138) C dX9_cheapest_138 rfl ?_
                          refine r_callV (pc := 140) (is := [0, 1, 2, 3, 4, 5, 6, 7, 8]) C YX9_staysOf dX9_cheapest_140 tw_958 (c_X9_staysOf l G _ _ _ _ _ _ (by first | assumption | omega | exact zand_rng _ _ | exact zor_rng _ _ | exact zxor_rng _ _ | exact BT.r (IT.b (by assumption)) _ _) (by first | assumption | omega | exact zand_rng _ _ | exact zor_rng _ _ | exact zxor_rng _ _ | exact BT.r (IT.b (by assumption)) _ _) (by first | assumption | omega | exact zand_rng _ _ | exact zor_rng _ _ | exact zxor_rng _ _ | exact BT.r (IT.b (by assumption)) _ _) (by first | assumption | omega | exact zand_rng _ _ | exact zor_rng _ _ | exact zxor_rng _ _ | exact BT.r (IT.b (by assumption)) _ _) (by first | assumption | omega | exact zand_rng _ _ | exact zor_rng _ _ | exact zxor_rng _ _ | exact BT.r (IT.b (by assumption)) _ _)) 0 0 rfl rfl (ci := 9) rfl rfl rfl (by decide) rfl rfl (Nat.le_of_ble_eq_true rfl) ⟨rfl, rfl, by decide, by decide⟩ (jst_i (R_uall ..) ?_)
                          have hvs := sStayV_r (sStayU_p hI i (q := t) (n := k) (by omega) (by omega) (by omega)).1 i t (sStayU_p hI i (q := t) (n := k) (by omega) (by omega) (by omega)).1.D.1 (Int.le_refl _)
                          have hvq : v_stay T i t k = sStayV (sStayU T i t k) i t (sStayU T i t k 0 1) := rfl
                          refine r_iload_n (pc := 143) C 3 dX9_cheapest_143 rfl rfl ?_
                          refine r_icmp_ge (pc := 144) (tgt := 150) C dX9_cheapest_144 (by decide) (by first | omega | exact zand_rng _ _ | exact zor_rng _ _ | exact zxor_rng _ _ | exact BT.r (IT.b (by assumption)) _ _) (by first | omega | exact zand_rng _ _ | exact zor_rng _ _ | exact zxor_rng _ _ | exact BT.r (IT.b (by assumption)) _ _) (fun c144 => ?_) (fun c144 => ?_)
                          · refine r_iload (pc := 150) C dX9_cheapest_150 rfl ?_
                            refine r_istore (pc := 152) C dX9_cheapest_152 (Nat.le_of_ble_eq_true rfl) ?_
                            refine r_aload_n (pc := 154) C 0 dX9_cheapest_154 rfl rfl ?_
                            refine r_iload (pc := 155) C dX9_cheapest_155 rfl ?_
                            refine r_callV (pc := 157) (is := [0, 1, 2, 3, 4, 5, 6, 7, 8]) C YX9_worthNow dX9_cheapest_157 tw_970 (c_X9_worthNow l G _ _ _ _ (by first | assumption | omega | exact zand_rng _ _ | exact zor_rng _ _ | exact zxor_rng _ _ | exact BT.r (IT.b (by assumption)) _ _) (by first | assumption | omega | exact zand_rng _ _ | exact zor_rng _ _ | exact zxor_rng _ _ | exact BT.r (IT.b (by assumption)) _ _)) 0 0 rfl rfl (ci := 9) rfl rfl rfl (by decide) rfl rfl (Nat.le_of_ble_eq_true rfl) ⟨rfl, rfl, by decide, by decide⟩ (jst_i (R_uall ..) ?_)
                            refine r_istore (pc := 160) C dX9_cheapest_160 (Nat.le_of_ble_eq_true rfl) ?_
                            refine r_iinc (pc := 162) C dX9_cheapest_162 rfl ?_
                            refine r_goto (pc := 165) (tgt := 83) C dX9_cheapest_165 (by decide) ?_
                            refine Wc.to (ih (i + 1) (by omega) (by omega) (by omega) ) rfl (lsub_s (by first | rfl | (rw [sCheap_s T f t m k h0]; first | (rw [if_pos (by omega)]; done) | (rw [if_neg (by omega)]; done) | (rw [if_pos (by omega)]; rfl) | (rw [if_neg (by omega)]; rfl))) (lsub_s (by first | rfl | (rw [sCheap_s T f t m k h0]; first | (rw [if_pos (by omega)]; done) | (rw [if_neg (by omega)]; done) | (rw [if_pos (by omega)]; rfl) | (rw [if_neg (by omega)]; rfl))) (lsub_s (by first | rfl | (rw [sCheap_s T f t m k h0]; first | (rw [if_pos (by omega)]; done) | (rw [if_neg (by omega)]; done) | (rw [if_pos (by omega)]; rfl) | (rw [if_neg (by omega)]; rfl))) (lsub_s (by first | rfl | (rw [sCheap_s T f t m k h0]; first | (rw [if_pos (by omega)]; done) | (rw [if_neg (by omega)]; done) | (rw [if_pos (by omega)]; rfl) | (rw [if_neg (by omega)]; rfl))) (lsub_s (by first | rfl | (rw [sCheap_s T f t m k h0]; first | (rw [if_pos (by omega)]; done) | (rw [if_neg (by omega)]; done) | (rw [if_pos (by omega)]; rfl) | (rw [if_neg (by omega)]; rfl))) (lsub_n (lsub_s (by first | rfl | (rw [sCheap_s T f t m k h0]; first | (rw [if_pos (by omega)]; done) | (rw [if_neg (by omega)]; done) | (rw [if_pos (by omega)]; rfl) | (rw [if_neg (by omega)]; rfl))) (lsub_s (by first | rfl | (rw [sCheap_s T f t m k h0]; first | (rw [if_pos (by omega)]; done) | (rw [if_neg (by omega)]; done) | (rw [if_pos (by omega)]; rfl) | (rw [if_neg (by omega)]; rfl))) (lsub_s (by first | rfl | (rw [sCheap_s T f t m k h0]; first | (rw [if_pos (by omega)]; done) | (rw [if_neg (by omega)]; done) | (rw [if_pos (by omega)]; rfl) | (rw [if_neg (by omega)]; rfl))) (lsub_n lsub_0)))))))))) (by first | exact hR1 | exact hR2 (by omega))
                          · refine r_goto (pc := 147) (tgt := 162) C dX9_cheapest_147 (by decide) ?_
                            refine r_iinc (pc := 162) C dX9_cheapest_162 rfl ?_
                            refine r_goto (pc := 165) (tgt := 83) C dX9_cheapest_165 (by decide) ?_
                            refine Wc.to (ih (i + 1) (by omega) (by omega) (by omega) ) rfl (lsub_s (by first | rfl | (rw [sCheap_s T f t m k h0]; first | (rw [if_pos (by omega)]; done) | (rw [if_neg (by omega)]; done) | (rw [if_pos (by omega)]; rfl) | (rw [if_neg (by omega)]; rfl))) (lsub_s (by first | rfl | (rw [sCheap_s T f t m k h0]; first | (rw [if_pos (by omega)]; done) | (rw [if_neg (by omega)]; done) | (rw [if_pos (by omega)]; rfl) | (rw [if_neg (by omega)]; rfl))) (lsub_s (by first | rfl | (rw [sCheap_s T f t m k h0]; first | (rw [if_pos (by omega)]; done) | (rw [if_neg (by omega)]; done) | (rw [if_pos (by omega)]; rfl) | (rw [if_neg (by omega)]; rfl))) (lsub_s (by first | rfl | (rw [sCheap_s T f t m k h0]; first | (rw [if_pos (by omega)]; done) | (rw [if_neg (by omega)]; done) | (rw [if_pos (by omega)]; rfl) | (rw [if_neg (by omega)]; rfl))) (lsub_s (by first | rfl | (rw [sCheap_s T f t m k h0]; first | (rw [if_pos (by omega)]; done) | (rw [if_neg (by omega)]; done) | (rw [if_pos (by omega)]; rfl) | (rw [if_neg (by omega)]; rfl))) (lsub_n (lsub_s (by first | rfl | (rw [sCheap_s T f t m k h0]; first | (rw [if_pos (by omega)]; done) | (rw [if_neg (by omega)]; done) | (rw [if_pos (by omega)]; rfl) | (rw [if_neg (by omega)]; rfl))) (lsub_s (by first | rfl | (rw [sCheap_s T f t m k h0]; first | (rw [if_pos (by omega)]; done) | (rw [if_neg (by omega)]; done) | (rw [if_pos (by omega)]; rfl) | (rw [if_neg (by omega)]; rfl))) (lsub_s (by first | rfl | (rw [sCheap_s T f t m k h0]; first | (rw [if_pos (by omega)]; done) | (rw [if_neg (by omega)]; done) | (rw [if_pos (by omega)]; rfl) | (rw [if_neg (by omega)]; rfl))) (lsub_n lsub_0)))))))))) (by first | exact hR1 | exact hR2 (by omega))
                        · refine r_aload_n (pc := 111) C 0 dX9_cheapest_111 rfl rfl ?_
                          refine r_iload (pc := 112) C dX9_cheapest_112 rfl ?_
                          refine r_callV (pc := 114) (is := [0, 1, 2, 3, 4, 5, 6, 7, 8]) C YX9_worthNow dX9_cheapest_114 tw_970 (c_X9_worthNow l G _ _ _ _ (by first | assumption | omega | exact zand_rng _ _ | exact zor_rng _ _ | exact zxor_rng _ _ | exact BT.r (IT.b (by assumption)) _ _) (by first | assumption | omega | exact zand_rng _ _ | exact zor_rng _ _ | exact zxor_rng _ _ | exact BT.r (IT.b (by assumption)) _ _)) 0 0 rfl rfl (ci := 9) rfl rfl rfl (by decide) rfl rfl (Nat.le_of_ble_eq_true rfl) ⟨rfl, rfl, by decide, by decide⟩ (jst_i (R_uall ..) ?_)
                          refine r_iload (pc := 117) C dX9_cheapest_117 rfl ?_
                          refine r_icmp_ge (pc := 119) (tgt := 126) C dX9_cheapest_119 (by decide) (by first | omega | exact zand_rng _ _ | exact zor_rng _ _ | exact zxor_rng _ _ | exact BT.r (IT.b (by assumption)) _ _) (by first | omega | exact zand_rng _ _ | exact zor_rng _ _ | exact zxor_rng _ _ | exact BT.r (IT.b (by assumption)) _ _) (fun c119 => ?_) (fun c119 => ?_)
                          · refine r_iconst (pc := 126) C dX9_cheapest_126 ?_
                            refine r_istore (pc := 127) C dX9_cheapest_127 (Nat.le_of_ble_eq_true rfl) ?_
                            refine r_iload (pc := 129) C dX9_cheapest_129 rfl ?_
                            refine r_if_eq (pc := 131) (tgt := 162) C dX9_cheapest_131 (by decide) (by first | omega | exact zand_rng _ _ | exact zor_rng _ _ | exact zxor_rng _ _ | exact BT.r (IT.b (by assumption)) _ _) (fun c131 => ?_) (fun c131 => absurd c131 (by omega))
                            refine r_iinc (pc := 162) C dX9_cheapest_162 rfl ?_
                            refine r_goto (pc := 165) (tgt := 83) C dX9_cheapest_165 (by decide) ?_
                            refine Wc.to (ih (i + 1) (by omega) (by omega) (by omega) ) rfl (lsub_s (by first | rfl | (rw [sCheap_s T f t m k h0]; first | (rw [if_pos (by omega)]; done) | (rw [if_neg (by omega)]; done) | (rw [if_pos (by omega)]; rfl) | (rw [if_neg (by omega)]; rfl))) (lsub_s (by first | rfl | (rw [sCheap_s T f t m k h0]; first | (rw [if_pos (by omega)]; done) | (rw [if_neg (by omega)]; done) | (rw [if_pos (by omega)]; rfl) | (rw [if_neg (by omega)]; rfl))) (lsub_s (by first | rfl | (rw [sCheap_s T f t m k h0]; first | (rw [if_pos (by omega)]; done) | (rw [if_neg (by omega)]; done) | (rw [if_pos (by omega)]; rfl) | (rw [if_neg (by omega)]; rfl))) (lsub_s (by first | rfl | (rw [sCheap_s T f t m k h0]; first | (rw [if_pos (by omega)]; done) | (rw [if_neg (by omega)]; done) | (rw [if_pos (by omega)]; rfl) | (rw [if_neg (by omega)]; rfl))) (lsub_s (by first | rfl | (rw [sCheap_s T f t m k h0]; first | (rw [if_pos (by omega)]; done) | (rw [if_neg (by omega)]; done) | (rw [if_pos (by omega)]; rfl) | (rw [if_neg (by omega)]; rfl))) (lsub_n (lsub_s (by first | rfl | (rw [sCheap_s T f t m k h0]; first | (rw [if_pos (by omega)]; done) | (rw [if_neg (by omega)]; done) | (rw [if_pos (by omega)]; rfl) | (rw [if_neg (by omega)]; rfl))) (lsub_s (by first | rfl | (rw [sCheap_s T f t m k h0]; first | (rw [if_pos (by omega)]; done) | (rw [if_neg (by omega)]; done) | (rw [if_pos (by omega)]; rfl) | (rw [if_neg (by omega)]; rfl))) (lsub_s (by first | rfl | (rw [sCheap_s T f t m k h0]; first | (rw [if_pos (by omega)]; done) | (rw [if_neg (by omega)]; done) | (rw [if_pos (by omega)]; rfl) | (rw [if_neg (by omega)]; rfl))) (lsub_n lsub_0)))))))))) (by first | exact hR1 | exact hR2 (by omega))
                          · refine r_iconst (pc := 122) C dX9_cheapest_122 ?_
                            refine r_goto (pc := 123) (tgt := 127) C dX9_cheapest_123 (by decide) ?_
                            refine r_istore (pc := 127) C dX9_cheapest_127 (Nat.le_of_ble_eq_true rfl) ?_
                            refine r_iload (pc := 129) C dX9_cheapest_129 rfl ?_
                            refine r_if_eq (pc := 131) (tgt := 162) C dX9_cheapest_131 (by decide) (by first | omega | exact zand_rng _ _ | exact zor_rng _ _ | exact zxor_rng _ _ | exact BT.r (IT.b (by assumption)) _ _) (fun c131 => absurd c131 (by omega)) (fun c131 => ?_)
                            refine r_aload_n (pc := 134) C 0 dX9_cheapest_134 rfl rfl ?_
                            refine r_iload (pc := 135) C dX9_cheapest_135 rfl ?_
                            refine r_iload_n (pc := 137) C 2 dX9_cheapest_137 rfl rfl ?_
                            refine r_iload (pc := 138) C dX9_cheapest_138 rfl ?_
                            refine r_callV (pc := 140) (is := [0, 1, 2, 3, 4, 5, 6, 7, 8]) C YX9_staysOf dX9_cheapest_140 tw_958 (c_X9_staysOf l G _ _ _ _ _ _ (by first | assumption | omega | exact zand_rng _ _ | exact zor_rng _ _ | exact zxor_rng _ _ | exact BT.r (IT.b (by assumption)) _ _) (by first | assumption | omega | exact zand_rng _ _ | exact zor_rng _ _ | exact zxor_rng _ _ | exact BT.r (IT.b (by assumption)) _ _) (by first | assumption | omega | exact zand_rng _ _ | exact zor_rng _ _ | exact zxor_rng _ _ | exact BT.r (IT.b (by assumption)) _ _) (by first | assumption | omega | exact zand_rng _ _ | exact zor_rng _ _ | exact zxor_rng _ _ | exact BT.r (IT.b (by assumption)) _ _) (by first | assumption | omega | exact zand_rng _ _ | exact zor_rng _ _ | exact zxor_rng _ _ | exact BT.r (IT.b (by assumption)) _ _)) 0 0 rfl rfl (ci := 9) rfl rfl rfl (by decide) rfl rfl (Nat.le_of_ble_eq_true rfl) ⟨rfl, rfl, by decide, by decide⟩ (jst_i (R_uall ..) ?_)
                            have hvs := sStayV_r (sStayU_p hI i (q := t) (n := k) (by omega) (by omega) (by omega)).1 i t (sStayU_p hI i (q := t) (n := k) (by omega) (by omega) (by omega)).1.D.1 (Int.le_refl _)
                            have hvq : v_stay T i t k = sStayV (sStayU T i t k) i t (sStayU T i t k 0 1) := rfl
                            refine r_iload_n (pc := 143) C 3 dX9_cheapest_143 rfl rfl ?_
                            refine r_icmp_ge (pc := 144) (tgt := 150) C dX9_cheapest_144 (by decide) (by first | omega | exact zand_rng _ _ | exact zor_rng _ _ | exact zxor_rng _ _ | exact BT.r (IT.b (by assumption)) _ _) (by first | omega | exact zand_rng _ _ | exact zor_rng _ _ | exact zxor_rng _ _ | exact BT.r (IT.b (by assumption)) _ _) (fun c144 => ?_) (fun c144 => ?_)
                            · refine r_iload (pc := 150) C dX9_cheapest_150 rfl ?_
                              refine r_istore (pc := 152) C dX9_cheapest_152 (Nat.le_of_ble_eq_true rfl) ?_
                              refine r_aload_n (pc := 154) C 0 dX9_cheapest_154 rfl rfl ?_
                              refine r_iload (pc := 155) C dX9_cheapest_155 rfl ?_
                              refine r_callV (pc := 157) (is := [0, 1, 2, 3, 4, 5, 6, 7, 8]) C YX9_worthNow dX9_cheapest_157 tw_970 (c_X9_worthNow l G _ _ _ _ (by first | assumption | omega | exact zand_rng _ _ | exact zor_rng _ _ | exact zxor_rng _ _ | exact BT.r (IT.b (by assumption)) _ _) (by first | assumption | omega | exact zand_rng _ _ | exact zor_rng _ _ | exact zxor_rng _ _ | exact BT.r (IT.b (by assumption)) _ _)) 0 0 rfl rfl (ci := 9) rfl rfl rfl (by decide) rfl rfl (Nat.le_of_ble_eq_true rfl) ⟨rfl, rfl, by decide, by decide⟩ (jst_i (R_uall ..) ?_)
                              refine r_istore (pc := 160) C dX9_cheapest_160 (Nat.le_of_ble_eq_true rfl) ?_
                              refine r_iinc (pc := 162) C dX9_cheapest_162 rfl ?_
                              refine r_goto (pc := 165) (tgt := 83) C dX9_cheapest_165 (by decide) ?_
                              refine Wc.to (ih (i + 1) (by omega) (by omega) (by omega) ) rfl (lsub_s (by first | rfl | (rw [sCheap_s T f t m k h0]; first | (rw [if_pos (by omega)]; done) | (rw [if_neg (by omega)]; done) | (rw [if_pos (by omega)]; rfl) | (rw [if_neg (by omega)]; rfl))) (lsub_s (by first | rfl | (rw [sCheap_s T f t m k h0]; first | (rw [if_pos (by omega)]; done) | (rw [if_neg (by omega)]; done) | (rw [if_pos (by omega)]; rfl) | (rw [if_neg (by omega)]; rfl))) (lsub_s (by first | rfl | (rw [sCheap_s T f t m k h0]; first | (rw [if_pos (by omega)]; done) | (rw [if_neg (by omega)]; done) | (rw [if_pos (by omega)]; rfl) | (rw [if_neg (by omega)]; rfl))) (lsub_s (by first | rfl | (rw [sCheap_s T f t m k h0]; first | (rw [if_pos (by omega)]; done) | (rw [if_neg (by omega)]; done) | (rw [if_pos (by omega)]; rfl) | (rw [if_neg (by omega)]; rfl))) (lsub_s (by first | rfl | (rw [sCheap_s T f t m k h0]; first | (rw [if_pos (by omega)]; done) | (rw [if_neg (by omega)]; done) | (rw [if_pos (by omega)]; rfl) | (rw [if_neg (by omega)]; rfl))) (lsub_n (lsub_s (by first | rfl | (rw [sCheap_s T f t m k h0]; first | (rw [if_pos (by omega)]; done) | (rw [if_neg (by omega)]; done) | (rw [if_pos (by omega)]; rfl) | (rw [if_neg (by omega)]; rfl))) (lsub_s (by first | rfl | (rw [sCheap_s T f t m k h0]; first | (rw [if_pos (by omega)]; done) | (rw [if_neg (by omega)]; done) | (rw [if_pos (by omega)]; rfl) | (rw [if_neg (by omega)]; rfl))) (lsub_s (by first | rfl | (rw [sCheap_s T f t m k h0]; first | (rw [if_pos (by omega)]; done) | (rw [if_neg (by omega)]; done) | (rw [if_pos (by omega)]; rfl) | (rw [if_neg (by omega)]; rfl))) (lsub_n lsub_0)))))))))) (by first | exact hR1 | exact hR2 (by omega))
                            · refine r_goto (pc := 147) (tgt := 162) C dX9_cheapest_147 (by decide) ?_
                              refine r_iinc (pc := 162) C dX9_cheapest_162 rfl ?_
                              refine r_goto (pc := 165) (tgt := 83) C dX9_cheapest_165 (by decide) ?_
                              refine Wc.to (ih (i + 1) (by omega) (by omega) (by omega) ) rfl (lsub_s (by first | rfl | (rw [sCheap_s T f t m k h0]; first | (rw [if_pos (by omega)]; done) | (rw [if_neg (by omega)]; done) | (rw [if_pos (by omega)]; rfl) | (rw [if_neg (by omega)]; rfl))) (lsub_s (by first | rfl | (rw [sCheap_s T f t m k h0]; first | (rw [if_pos (by omega)]; done) | (rw [if_neg (by omega)]; done) | (rw [if_pos (by omega)]; rfl) | (rw [if_neg (by omega)]; rfl))) (lsub_s (by first | rfl | (rw [sCheap_s T f t m k h0]; first | (rw [if_pos (by omega)]; done) | (rw [if_neg (by omega)]; done) | (rw [if_pos (by omega)]; rfl) | (rw [if_neg (by omega)]; rfl))) (lsub_s (by first | rfl | (rw [sCheap_s T f t m k h0]; first | (rw [if_pos (by omega)]; done) | (rw [if_neg (by omega)]; done) | (rw [if_pos (by omega)]; rfl) | (rw [if_neg (by omega)]; rfl))) (lsub_s (by first | rfl | (rw [sCheap_s T f t m k h0]; first | (rw [if_pos (by omega)]; done) | (rw [if_neg (by omega)]; done) | (rw [if_pos (by omega)]; rfl) | (rw [if_neg (by omega)]; rfl))) (lsub_n (lsub_s (by first | rfl | (rw [sCheap_s T f t m k h0]; first | (rw [if_pos (by omega)]; done) | (rw [if_neg (by omega)]; done) | (rw [if_pos (by omega)]; rfl) | (rw [if_neg (by omega)]; rfl))) (lsub_s (by first | rfl | (rw [sCheap_s T f t m k h0]; first | (rw [if_pos (by omega)]; done) | (rw [if_neg (by omega)]; done) | (rw [if_pos (by omega)]; rfl) | (rw [if_neg (by omega)]; rfl))) (lsub_s (by first | rfl | (rw [sCheap_s T f t m k h0]; first | (rw [if_pos (by omega)]; done) | (rw [if_neg (by omega)]; done) | (rw [if_pos (by omega)]; rfl) | (rw [if_neg (by omega)]; rfl))) (lsub_n lsub_0)))))))))) (by first | exact hR1 | exact hR2 (by omega))
                refine Wc.to (L83 ((zp2 (T 0 1) - (0)).toNat + 1) (0) (by omega) (by omega) (by omega) ) rfl (lsub_s rfl (lsub_s rfl (lsub_s rfl (lsub_s rfl (lsub_s rfl (lsub_n (lsub_s rfl (lsub_s rfl (lsub_s rfl (lsub_n lsub_0)))))))))) (by rw [if_pos rfl])
              · refine r_bipush (pc := 53) C dX9_cheapest_53 (by decide) ?_
                refine r_goto (pc := 55) (tgt := 59) C dX9_cheapest_55 (by decide) ?_
                refine r_istore (pc := 59) C dX9_cheapest_59 (Nat.le_of_ble_eq_true rfl) ?_
                refine r_iload (pc := 61) C dX9_cheapest_61 rfl ?_
                refine r_if_eq (pc := 63) (tgt := 73) C dX9_cheapest_63 (by decide) (by first | omega | exact zand_rng _ _ | exact zor_rng _ _ | exact zxor_rng _ _ | exact BT.r (IT.b (by assumption)) _ _) (fun c63 => absurd c63 (by omega)) (fun c63 => ?_)
                refine r_aload_n (pc := 66) C 0 dX9_cheapest_66 rfl rfl ?_
                refine r_iload (pc := 67) C dX9_cheapest_67 rfl ?_
                refine r_callV (pc := 69) (is := [0, 1, 2, 3, 4, 5, 6, 7, 8]) C YX9_refuse dX9_cheapest_69 tw_785 (c_X9_refuse l G _ _ _ _ (by first | assumption | omega | exact zand_rng _ _ | exact zor_rng _ _ | exact zxor_rng _ _ | exact BT.r (IT.b (by assumption)) _ _)) 0 0 rfl rfl (ci := 9) rfl rfl rfl (by decide) rfl rfl (Nat.le_of_ble_eq_true rfl) ⟨rfl, rfl, by decide, by decide⟩ (jst_i (R_uall ..) ?_)
                exact r_iret (pc := 72) C hQ dX9_cheapest_72 rfl (fin_noR (by unfold q_cheap; (repeat (first | rw [if_pos (by omega)] | rw [if_neg (by omega)])); (try first | rfl | assumption | omega)) (by omega) rfl)
          · refine r_bipush (pc := 34) C dX9_cheapest_34 (by decide) ?_
            refine r_goto (pc := 36) (tgt := 59) C dX9_cheapest_36 (by decide) ?_
            refine r_istore (pc := 59) C dX9_cheapest_59 (Nat.le_of_ble_eq_true rfl) ?_
            refine r_iload (pc := 61) C dX9_cheapest_61 rfl ?_
            refine r_if_eq (pc := 63) (tgt := 73) C dX9_cheapest_63 (by decide) (by first | omega | exact zand_rng _ _ | exact zor_rng _ _ | exact zxor_rng _ _ | exact BT.r (IT.b (by assumption)) _ _) (fun c63 => absurd c63 (by omega)) (fun c63 => ?_)
            refine r_aload_n (pc := 66) C 0 dX9_cheapest_66 rfl rfl ?_
            refine r_iload (pc := 67) C dX9_cheapest_67 rfl ?_
            refine r_callV (pc := 69) (is := [0, 1, 2, 3, 4, 5, 6, 7, 8]) C YX9_refuse dX9_cheapest_69 tw_785 (c_X9_refuse l G _ _ _ _ (by first | assumption | omega | exact zand_rng _ _ | exact zor_rng _ _ | exact zxor_rng _ _ | exact BT.r (IT.b (by assumption)) _ _)) 0 0 rfl rfl (ci := 9) rfl rfl rfl (by decide) rfl rfl (Nat.le_of_ble_eq_true rfl) ⟨rfl, rfl, by decide, by decide⟩ (jst_i (R_uall ..) ?_)
            exact r_iret (pc := 72) C hQ dX9_cheapest_72 rfl (fin_noR (by unfold q_cheap; (repeat (first | rw [if_pos (by omega)] | rw [if_neg (by omega)])); (try first | rfl | assumption | omega)) (by omega) rfl)
      · refine r_iconst (pc := 21) C dX9_cheapest_21 ?_
        refine r_goto (pc := 22) (tgt := 59) C dX9_cheapest_22 (by decide) ?_
        refine r_istore (pc := 59) C dX9_cheapest_59 (Nat.le_of_ble_eq_true rfl) ?_
        refine r_iload (pc := 61) C dX9_cheapest_61 rfl ?_
        refine r_if_eq (pc := 63) (tgt := 73) C dX9_cheapest_63 (by decide) (by first | omega | exact zand_rng _ _ | exact zor_rng _ _ | exact zxor_rng _ _ | exact BT.r (IT.b (by assumption)) _ _) (fun c63 => absurd c63 (by omega)) (fun c63 => ?_)
        refine r_aload_n (pc := 66) C 0 dX9_cheapest_66 rfl rfl ?_
        refine r_iload (pc := 67) C dX9_cheapest_67 rfl ?_
        refine r_callV (pc := 69) (is := [0, 1, 2, 3, 4, 5, 6, 7, 8]) C YX9_refuse dX9_cheapest_69 tw_785 (c_X9_refuse l G _ _ _ _ (by first | assumption | omega | exact zand_rng _ _ | exact zor_rng _ _ | exact zxor_rng _ _ | exact BT.r (IT.b (by assumption)) _ _)) 0 0 rfl rfl (ci := 9) rfl rfl rfl (by decide) rfl rfl (Nat.le_of_ble_eq_true rfl) ⟨rfl, rfl, by decide, by decide⟩ (jst_i (R_uall ..) ?_)
        exact r_iret (pc := 72) C hQ dX9_cheapest_72 rfl (fin_noR (by unfold q_cheap; (repeat (first | rw [if_pos (by omega)] | rw [if_neg (by omega)])); (try first | rfl | assumption | omega)) (by omega) rfl)

