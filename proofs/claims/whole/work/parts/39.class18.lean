set_option maxRecDepth 100000 in
set_option maxHeartbeats 4000000 in
theorem c_X5_signAt (l : Launch) (G : GT) (h : Nat → Nat) (S : Tn) (p : Int) (hs0 : 0 ≤ S 0 0 ∧ S 0 0 ≤ 64) (hp : 0 ≤ p ∧ p ≤ 70) : Cn l yX5_signAt cX5_signAt 2 (Option.some .int) ({ frames := 0, cells := 0, slots := 0, locals := 0 }) G [.ref (h 0), .int (iI p)] (wS G h S) (jst (some (.int (iI (sg (S 1) (S 0 0) p)))) (wS G h S)) := by
  refine Cn_in RX5 [some (.ref (h 0)), some (.int (iI p))] (by decide +kernel) rfl rfl rfl (Nat.le_of_ble_eq_true rfl) (fun K C hQ => ?_)
  refine r_iload_n (pc := 0) C 1 dX5_signAt_0 rfl rfl ?_
  refine r_if_lt (pc := 1) (tgt := 30) C dX5_signAt_1 (by decide) (by first | omega | exact zand_rng _ _ | exact zor_rng _ _ | exact zxor_rng _ _ | exact BT.r (IT.b (by assumption)) _ _) (fun c1 => absurd c1 (by omega)) (fun c1 => ?_)
  refine r_iload_n (pc := 4) C 1 dX5_signAt_4 rfl rfl ?_
  refine r_aload_n (pc := 5) C 0 dX5_signAt_5 rfl rfl ?_
  refine r_get (pc := 6) C 0 0 1 dX5_signAt_6 in_X5 rfl rfl (ci := 5) rfl (by decide) tw_136 rfl rfl ?_
  refine r_icmp_ge (pc := 9) (tgt := 30) C dX5_signAt_9 (by decide) (by first | omega | exact zand_rng _ _ | exact zor_rng _ _ | exact zxor_rng _ _ | exact BT.r (IT.b (by assumption)) _ _) (by first | omega | exact zand_rng _ _ | exact zor_rng _ _ | exact zxor_rng _ _ | exact BT.r (IT.b (by assumption)) _ _) (fun c9 => ?_) (fun c9 => ?_)
  · refine r_iconst (pc := 30) C dX5_signAt_30 ?_
    exact r_iret (pc := 31) C hQ dX5_signAt_31 rfl (jst_ri (by first | (unfold sg; rw [if_pos (by omega)]; done) | (unfold sg; rw [if_neg (by omega)]; done)) rfl)
  · refine r_iload_n (pc := 12) C 1 dX5_signAt_12 rfl rfl ?_
    refine r_aload_n (pc := 13) C 0 dX5_signAt_13 rfl rfl ?_
    refine r_get (pc := 14) C 0 0 0 dX5_signAt_14 in_X5 rfl rfl (ci := 5) rfl (by decide) tw_135 rfl rfl ?_
    refine r_ilen (pc := 17) C 0 1 dX5_signAt_17 rfl rfl ?_
    refine r_icmp_ge (pc := 18) (tgt := 30) C dX5_signAt_18 (by decide) (by first | omega | exact zand_rng _ _ | exact zor_rng _ _ | exact zxor_rng _ _ | exact BT.r (IT.b (by assumption)) _ _) (by first | omega | exact zand_rng _ _ | exact zor_rng _ _ | exact zxor_rng _ _ | exact BT.r (IT.b (by assumption)) _ _) (fun c18 => absurd c18 (by omega)) (fun c18 => ?_)
    refine r_aload_n (pc := 21) C 0 dX5_signAt_21 rfl rfl ?_
    refine r_get (pc := 22) C 0 0 0 dX5_signAt_22 in_X5 rfl rfl (ci := 5) rfl (by decide) tw_135 rfl rfl ?_
    refine r_iload_n (pc := 25) C 1 dX5_signAt_25 rfl rfl ?_
    refine r_iaload (pc := 26) C 0 1 dX5_signAt_26 rfl rfl (by decide) (by omega) ?_
    refine r_goto (pc := 27) (tgt := 31) C dX5_signAt_27 (by decide) ?_
    exact r_iret (pc := 31) C hQ dX5_signAt_31 rfl (jst_ri (by first | (unfold sg; rw [if_pos (by omega)]; done) | (unfold sg; rw [if_neg (by omega)]; done)) rfl)

set_option maxRecDepth 100000 in
set_option maxHeartbeats 4000000 in
theorem c_X5_digitAt (l : Launch) (G : GT) (h : Nat → Nat) (S : Tn) (p : Int) (hs0 : 0 ≤ S 0 0 ∧ S 0 0 ≤ 64) (hp : 0 ≤ p ∧ p ≤ 70) : Cn l yX5_digitAt cX5_digitAt 2 (Option.some .int) ({ frames := 1, cells := 0, slots := 0, locals := 21 }) G [.ref (h 0), .int (iI p)] (wS G h S) (jst (some (.int (iI (sg (S 1) (S 0 0) p - 48)))) (wS G h S)) := by
  refine Cn_in RX5 [some (.ref (h 0)), some (.int (iI p))] (by decide +kernel) rfl rfl rfl (Nat.le_of_ble_eq_true rfl) (fun K C hQ => ?_)
  refine r_aload_n (pc := 0) C 0 dX5_digitAt_0 rfl rfl ?_
  refine r_iload_n (pc := 1) C 1 dX5_digitAt_1 rfl rfl ?_
  refine r_callV (pc := 2) (is := [0]) C YX5_signAt dX5_digitAt_2 tw_210 (c_X5_signAt l G _ _ _ (by first | assumption | omega | exact zand_rng _ _ | exact zor_rng _ _ | exact zxor_rng _ _ | exact BT.r (IT.b (by assumption)) _ _) (by first | assumption | omega | exact zand_rng _ _ | exact zor_rng _ _ | exact zxor_rng _ _ | exact BT.r (IT.b (by assumption)) _ _)) 0 0 rfl rfl (ci := 5) rfl rfl rfl (by decide) rfl rfl (Nat.le_of_ble_eq_true rfl) ⟨rfl, rfl, by decide, by decide⟩ (jst_i (S_uall ..) ?_)
  refine r_bipush (pc := 5) C dX5_digitAt_5 (by decide) ?_
  refine r_isub (pc := 7) C dX5_digitAt_7 ?_
  exact r_iret (pc := 8) C hQ dX5_digitAt_8 rfl (jst_ri (by rfl) rfl)

set_option maxRecDepth 100000 in
set_option maxHeartbeats 4000000 in
theorem c_X5_isDigit (l : Launch) (G : GT) (c : Int) (hc : -1 ≤ c ∧ c ≤ 255) : Cn l yX5_isDigit cX5_isDigit 1 (Option.some .boolean) ({ frames := 0, cells := 0, slots := 0, locals := 0 }) G [.int (iI c)] (w0) (jst (some (.int (iI (zb (sDg c))))) (w0)) := by
  refine Cn_in RX5 [some (.int (iI c))] (by decide +kernel) rfl rfl rfl (Nat.le_of_ble_eq_true rfl) (fun K C hQ => ?_)
  refine r_iload_n (pc := 0) C 0 dX5_isDigit_0 rfl rfl ?_
  refine r_bipush (pc := 1) C dX5_isDigit_1 (by decide) ?_
  refine r_icmp_lt (pc := 3) (tgt := 16) C dX5_isDigit_3 (by decide) (by first | omega | exact zand_rng _ _ | exact zor_rng _ _ | exact zxor_rng _ _ | exact BT.r (IT.b (by assumption)) _ _) (by first | omega | exact zand_rng _ _ | exact zor_rng _ _ | exact zxor_rng _ _ | exact BT.r (IT.b (by assumption)) _ _) (fun c3 => ?_) (fun c3 => ?_)
  · refine r_iconst (pc := 16) C dX5_isDigit_16 ?_
    exact r_zret (pc := 17) C hQ dX5_isDigit_17 (by decide) rfl (jst_ri (by exact (zb_f (by omega)).symm) rfl)
  · refine r_iload_n (pc := 6) C 0 dX5_isDigit_6 rfl rfl ?_
    refine r_bipush (pc := 7) C dX5_isDigit_7 (by decide) ?_
    refine r_icmp_gt (pc := 9) (tgt := 16) C dX5_isDigit_9 (by decide) (by first | omega | exact zand_rng _ _ | exact zor_rng _ _ | exact zxor_rng _ _ | exact BT.r (IT.b (by assumption)) _ _) (by first | omega | exact zand_rng _ _ | exact zor_rng _ _ | exact zxor_rng _ _ | exact BT.r (IT.b (by assumption)) _ _) (fun c9 => ?_) (fun c9 => ?_)
    · refine r_iconst (pc := 16) C dX5_isDigit_16 ?_
      exact r_zret (pc := 17) C hQ dX5_isDigit_17 (by decide) rfl (jst_ri (by exact (zb_f (by omega)).symm) rfl)
    · refine r_iconst (pc := 12) C dX5_isDigit_12 ?_
      refine r_goto (pc := 13) (tgt := 17) C dX5_isDigit_13 (by decide) ?_
      exact r_zret (pc := 17) C hQ dX5_isDigit_17 (by decide) rfl (jst_ri (by exact (zb_t (by omega)).symm) rfl)

set_option maxRecDepth 100000 in
set_option maxHeartbeats 4000000 in
theorem c_X5_statements (l : Launch) (G : GT) (h : Nat → Nat) (S : Tn) (hs0 : 0 ≤ S 0 0 ∧ S 0 0 ≤ 64) (hsl : ∀ j, 0 ≤ S 1 j ∧ S 1 j ≤ 255) : Cn l yX5_statements cX5_statements 3 (Option.some .int) ({ frames := 1, cells := 0, slots := 0, locals := 21 }) G [.ref (h 0)] (wS G h S) (jst (some (.int (iI (sSemi (S 1) (S 0 0))))) (wS G h S)) := by
  refine Cn_in RX5 [some (.ref (h 0)), none, none] (by decide +kernel) rfl rfl rfl (Nat.le_of_ble_eq_true rfl) (fun K C hQ => ?_)
  have hsr := fun p => sg_r hsl (S 0 0) p
  refine r_iconst (pc := 0) C dX5_statements_0 ?_
  refine r_istore_n (pc := 1) C 1 dX5_statements_1 rfl (Nat.le_of_ble_eq_true rfl) ?_
  refine r_iconst (pc := 2) C dX5_statements_2 ?_
  refine r_istore_n (pc := 3) C 2 dX5_statements_3 rfl (Nat.le_of_ble_eq_true rfl) ?_
  have L4 : ∀ (n : Nat) (i : Int), 0 ≤ i → i ≤ S 0 0 → S 0 0 < i + n → Wc K G 4 [some (.ref (h 0)), some (.int (iI (sSemi (S 1) i))), some (.int (iI i))] [] (wS G h S) := by
    intro n
    induction n with
    | zero =>
      intro i h0 h1 hn; omega
    | succ n ih =>
      intro i h0 h1 hn 
      have hsi := hsr i
      have hsg : i < S 0 0 → sg (S 1) (S 0 0) i = S 1 i := fun q => if_pos q
      refine r_iload_n (pc := 4) C 2 dX5_statements_4 rfl rfl ?_
      refine r_aload_n (pc := 5) C 0 dX5_statements_5 rfl rfl ?_
      refine r_get (pc := 6) C 0 0 1 dX5_statements_6 in_X5 rfl rfl (ci := 5) rfl (by decide) tw_136 rfl rfl ?_
      refine r_icmp_ge (pc := 9) (tgt := 31) C dX5_statements_9 (by decide) (by first | omega | exact zand_rng _ _ | exact zor_rng _ _ | exact zxor_rng _ _ | exact BT.r (IT.b (by assumption)) _ _) (by first | omega | exact zand_rng _ _ | exact zor_rng _ _ | exact zxor_rng _ _ | exact BT.r (IT.b (by assumption)) _ _) (fun c9 => ?_) (fun c9 => ?_)
      · refine r_iload_n (pc := 31) C 1 dX5_statements_31 rfl rfl ?_
        exact r_iret (pc := 32) C hQ dX5_statements_32 rfl (jst_ri (by rw [show S 0 0 = i by omega]) rfl)
      · refine r_aload_n (pc := 12) C 0 dX5_statements_12 rfl rfl ?_
        refine r_iload_n (pc := 13) C 2 dX5_statements_13 rfl rfl ?_
        refine r_callV (pc := 14) (is := [0]) C YX5_signAt dX5_statements_14 tw_210 (c_X5_signAt l G _ _ _ (by first | assumption | omega | exact zand_rng _ _ | exact zor_rng _ _ | exact zxor_rng _ _ | exact BT.r (IT.b (by assumption)) _ _) (by first | assumption | omega | exact zand_rng _ _ | exact zor_rng _ _ | exact zxor_rng _ _ | exact BT.r (IT.b (by assumption)) _ _)) 0 0 rfl rfl (ci := 5) rfl rfl rfl (by decide) rfl rfl (Nat.le_of_ble_eq_true rfl) ⟨rfl, rfl, by decide, by decide⟩ (jst_i (S_uall ..) ?_)
        refine r_bipush (pc := 17) C dX5_statements_17 (by decide) ?_
        refine r_icmp_ne (pc := 19) (tgt := 25) C dX5_statements_19 (by decide) (by first | omega | exact zand_rng _ _ | exact zor_rng _ _ | exact zxor_rng _ _ | exact BT.r (IT.b (by assumption)) _ _) (by first | omega | exact zand_rng _ _ | exact zor_rng _ _ | exact zxor_rng _ _ | exact BT.r (IT.b (by assumption)) _ _) (fun c19 => ?_) (fun c19 => ?_)
        · refine r_iinc (pc := 25) C dX5_statements_25 rfl ?_
          refine r_goto (pc := 28) (tgt := 4) C dX5_statements_28 (by decide) ?_
          refine Wc.to (ih (i + 1) (by omega) (by omega) (by omega) ) rfl (lsub_s (by first | rfl | (rw [sSemi_s (S 1) h0]; first | (rw [if_pos (by omega)]; done) | (rw [if_neg (by omega), Int.add_zero]; done))) (lsub_s (by first | rfl | (rw [sSemi_s (S 1) h0]; first | (rw [if_pos (by omega)]; done) | (rw [if_neg (by omega), Int.add_zero]; done))) (lsub_s (by first | rfl | (rw [sSemi_s (S 1) h0]; first | (rw [if_pos (by omega)]; done) | (rw [if_neg (by omega), Int.add_zero]; done))) lsub_0))) (by rfl)
        · refine r_iinc (pc := 22) C dX5_statements_22 rfl ?_
          refine r_iinc (pc := 25) C dX5_statements_25 rfl ?_
          refine r_goto (pc := 28) (tgt := 4) C dX5_statements_28 (by decide) ?_
          refine Wc.to (ih (i + 1) (by omega) (by omega) (by omega) ) rfl (lsub_s (by first | rfl | (rw [sSemi_s (S 1) h0]; first | (rw [if_pos (by omega)]; done) | (rw [if_neg (by omega), Int.add_zero]; done))) (lsub_s (by first | rfl | (rw [sSemi_s (S 1) h0]; first | (rw [if_pos (by omega)]; done) | (rw [if_neg (by omega), Int.add_zero]; done))) (lsub_s (by first | rfl | (rw [sSemi_s (S 1) h0]; first | (rw [if_pos (by omega)]; done) | (rw [if_neg (by omega), Int.add_zero]; done))) lsub_0))) (by rfl)
  refine Wc.to (L4 ((S 0 0 - (0)).toNat + 1) (0) (by omega) (by omega) (by omega) ) rfl (lsub_s rfl (lsub_s rfl (lsub_s rfl lsub_0))) (by rfl)

