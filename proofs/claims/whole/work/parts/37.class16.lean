noncomputable def sR2 (T : Tn) (v i : Int) : Int := if (sRich T v i).1 < 0 then -1 else (sRich T v i).2
theorem sR2_or (T : Tn) (v i : Int) : ((sRich T v i).1 < 0 ∧ sR2 T v i = -1) ∨ (0 ≤ (sRich T v i).1 ∧ sR2 T v i = (sRich T v i).2) := by
  unfold sR2
  by_cases e : (sRich T v i).1 < 0
  · rw [if_pos e]; exact Or.inl ⟨e, rfl⟩
  · rw [if_neg e]; exact Or.inr ⟨by omega, rfl⟩
theorem sR_y {T : Tn} {v i : Int} (h0 : 0 ≤ i) (h : sComp T v i = i ∧ ((sRich T v i).1 < 0 ∨ (sRich T v i).2 < sLed T v i (T 0 0))) : (sRich T v (i + 1)).1 = i ∧ sR2 T v (i + 1) = sLed T v i (T 0 0) := by
  unfold sR2
  rw [sRich_s T v h0, if_pos h]
  exact ⟨rfl, if_neg (by show ¬ i < 0; omega)⟩
theorem sR_n {T : Tn} {v i : Int} (h0 : 0 ≤ i) (h : ¬ (sComp T v i = i ∧ ((sRich T v i).1 < 0 ∨ (sRich T v i).2 < sLed T v i (T 0 0)))) : (sRich T v (i + 1)).1 = (sRich T v i).1 ∧ sR2 T v (i + 1) = sR2 T v i := by
  unfold sR2
  rw [sRich_s T v h0, if_neg h]
  exact ⟨rfl, rfl⟩
set_option maxRecDepth 100000 in
set_option maxHeartbeats 4000000 in
theorem c_X8_sumLedBy (l : Launch) (G : GT) (a : Nat → Nat) (X N M P S : Tn) (v p : Int) (hI : IT N) (hjl : ∀ k, 0 ≤ k → k < N 0 0 → X 2 k = sComp N v k) (hp : 0 ≤ p ∧ p < N 0 0) : Cn l yX8_sumLedBy cX8_sumLedBy 4 (Option.some .int) ({ frames := 5, cells := 0, slots := 0, locals := 107 }) G [.ref (a 0), .int (iI p)] (wC G a X N M P S) (jst (some (.int (iI (sLed N v p (N 0 0))))) (wC G a X N M P S)) := by
  refine Cn_in RX8 [some (.ref (a 0)), some (.int (iI p)), none, none] (by decide +kernel) rfl rfl rfl (Nat.le_of_ble_eq_true rfl) (fun K C hQ => ?_)
  have hLL := hI.L
  have hDD := hI.D
  have hzp := zp2_r (L := N 0 1) (by omega)
  refine r_iconst (pc := 0) C dX8_sumLedBy_0 ?_
  refine r_istore_n (pc := 1) C 2 dX8_sumLedBy_1 rfl (Nat.le_of_ble_eq_true rfl) ?_
  refine r_iconst (pc := 2) C dX8_sumLedBy_2 ?_
  refine r_istore_n (pc := 3) C 3 dX8_sumLedBy_3 rfl (Nat.le_of_ble_eq_true rfl) ?_
  have L4 : ∀ (n : Nat) (i s : Int), 0 ≤ i → i ≤ N 0 0 → N 0 0 < i + n → sLm N v p i s → Wc K G 4 [some (.ref (a 0)), some (.int (iI p)), some (.int (iI s)), some (.int (iI i))] [] (wC G a X N M P S) := by
    intro n
    induction n with
    | zero =>
      intro i s h0 h1 hn; omega
    | succ n ih =>
      intro i s h0 h1 hn hs
      have hsc := sComp_r (T := N) (v := v) (p := i)
      have hs1 := hs.1
      refine r_iload_n (pc := 4) C 3 dX8_sumLedBy_4 rfl rfl ?_
      refine r_aload_n (pc := 5) C 0 dX8_sumLedBy_5 rfl rfl ?_
      refine r_get (pc := 6) C 0 0 0 dX8_sumLedBy_6 in_X8 rfl rfl (ci := 8) rfl (by decide) tw_143 rfl rfl ?_
      refine r_get (pc := 9) C 1 0 8 dX8_sumLedBy_9 in_X6 rfl rfl (ci := 6) rfl (by decide) tw_92 rfl rfl ?_
      refine r_icmp_ge (pc := 12) (tgt := 42) C dX8_sumLedBy_12 (by decide) (by first | omega | exact zand_rng _ _ | exact zor_rng _ _ | exact zxor_rng _ _ | exact BT.r (IT.b (by assumption)) _ _) (by first | omega | exact zand_rng _ _ | exact zor_rng _ _ | exact zxor_rng _ _ | exact BT.r (IT.b (by assumption)) _ _) (fun c12 => ?_) (fun c12 => ?_)
      · obtain rfl : i = N 0 0 := by omega
        refine r_aload_n (pc := 42) C 0 dX8_sumLedBy_42 rfl rfl ?_
        refine r_get (pc := 43) C 0 0 0 dX8_sumLedBy_43 in_X8 rfl rfl (ci := 8) rfl (by decide) tw_143 rfl rfl ?_
        refine r_iload_n (pc := 46) C 2 dX8_sumLedBy_46 rfl rfl ?_
        refine r_callV (pc := 47) (is := [1]) C YX6_worthOfAll dX8_sumLedBy_47 tw_633 (c_X6_worthOfAll l G _ _ _ (by first | assumption | omega | exact zand_rng _ _ | exact zor_rng _ _ | exact zxor_rng _ _ | exact BT.r (IT.b (by assumption)) _ _) (by first | assumption | omega | exact zand_rng _ _ | exact zor_rng _ _ | exact zxor_rng _ _ | exact BT.r (IT.b (by assumption)) _ _)) 1 0 rfl rfl (ci := 6) rfl rfl rfl (by decide) rfl rfl (Nat.le_of_ble_eq_true rfl) ⟨rfl, rfl, by decide, by decide⟩ (jst_i (C_u1 ..) ?_)
        exact r_iret (pc := 50) C hQ dX8_sumLedBy_50 rfl (jst_ri (by exact sLm_is hI hs) rfl)
      · refine r_aload_n (pc := 15) C 0 dX8_sumLedBy_15 rfl rfl ?_
        refine r_get (pc := 16) C 0 0 5 dX8_sumLedBy_16 in_X8 rfl rfl (ci := 8) rfl (by decide) tw_148 rfl rfl ?_
        refine r_iload_n (pc := 19) C 3 dX8_sumLedBy_19 rfl rfl ?_
        refine r_ialoadE (pc := 20) C 0 2 dX8_sumLedBy_20 rfl rfl (by decide) (by omega) (show X 2 i = sComp N v i from hjl i h0 (by omega)) ?_
        refine r_iload_n (pc := 21) C 1 dX8_sumLedBy_21 rfl rfl ?_
        refine r_icmp_ne (pc := 22) (tgt := 36) C dX8_sumLedBy_22 (by decide) (by first | omega | exact zand_rng _ _ | exact zor_rng _ _ | exact zxor_rng _ _ | exact BT.r (IT.b (by assumption)) _ _) (by first | omega | exact zand_rng _ _ | exact zor_rng _ _ | exact zxor_rng _ _ | exact BT.r (IT.b (by assumption)) _ _) (fun c22 => ?_) (fun c22 => ?_)
        · refine r_iinc (pc := 36) C dX8_sumLedBy_36 rfl ?_
          refine r_goto (pc := 39) (tgt := 4) C dX8_sumLedBy_39 (by decide) ?_
          first | refine Wc.to (ih (i + 1) s (by omega) (by omega) (by omega) (sLm_n hs (by omega))) rfl (lsub_s rfl (lsub_s rfl (lsub_s rfl (lsub_s rfl lsub_0)))) rfl | refine Wc.to (ih (i + 1) (zor s (sMask (fun d => N 6 d = i) (N 0 1))) (by omega) (by omega) (by omega) (sLm_y hDD h0 hs (by omega))) rfl (lsub_s rfl (lsub_s rfl (lsub_s rfl (lsub_s rfl lsub_0)))) rfl
        · refine r_iload_n (pc := 25) C 2 dX8_sumLedBy_25 rfl rfl ?_
          refine r_aload_n (pc := 26) C 0 dX8_sumLedBy_26 rfl rfl ?_
          refine r_get (pc := 27) C 0 0 0 dX8_sumLedBy_27 in_X8 rfl rfl (ci := 8) rfl (by decide) tw_143 rfl rfl ?_
          refine r_iload_n (pc := 30) C 3 dX8_sumLedBy_30 rfl rfl ?_
          refine r_callV (pc := 31) (is := [1]) C YX6_dovesIn dX8_sumLedBy_31 tw_628 (c_X6_dovesIn l G _ _ _ (by first | assumption | omega | exact zand_rng _ _ | exact zor_rng _ _ | exact zxor_rng _ _ | exact BT.r (IT.b (by assumption)) _ _) (by first | assumption | omega | exact zand_rng _ _ | exact zor_rng _ _ | exact zxor_rng _ _ | exact BT.r (IT.b (by assumption)) _ _)) 1 0 rfl rfl (ci := 6) rfl rfl rfl (by decide) rfl rfl (Nat.le_of_ble_eq_true rfl) ⟨rfl, rfl, by decide, by decide⟩ (jst_i (C_u1 ..) ?_)
          refine r_ior (pc := 34) C dX8_sumLedBy_34 ?_
          refine r_istore_n (pc := 35) C 2 dX8_sumLedBy_35 rfl (Nat.le_of_ble_eq_true rfl) ?_
          refine r_iinc (pc := 36) C dX8_sumLedBy_36 rfl ?_
          refine r_goto (pc := 39) (tgt := 4) C dX8_sumLedBy_39 (by decide) ?_
          first | refine Wc.to (ih (i + 1) s (by omega) (by omega) (by omega) (sLm_n hs (by omega))) rfl (lsub_s rfl (lsub_s rfl (lsub_s rfl (lsub_s rfl lsub_0)))) rfl | refine Wc.to (ih (i + 1) (zor s (sMask (fun d => N 6 d = i) (N 0 1))) (by omega) (by omega) (by omega) (sLm_y hDD h0 hs (by omega))) rfl (lsub_s rfl (lsub_s rfl (lsub_s rfl (lsub_s rfl lsub_0)))) rfl
  refine Wc.to (L4 7 0 0 (by omega) (by omega) (by omega) (sLm_0 N v p)) rfl (lsub_s rfl (lsub_s rfl (lsub_s rfl (lsub_s rfl lsub_0)))) rfl

set_option maxRecDepth 100000 in
set_option maxHeartbeats 4000000 in
theorem c_X8_richest (l : Launch) (G : GT) (a : Nat → Nat) (X N M P S : Tn) (v : Int) (hI : IT N) (hjl : ∀ k, 0 ≤ k → k < N 0 0 → X 2 k = sComp N v k) : Cn l yX8_richest cX8_richest 5 (Option.some .int) ({ frames := 6, cells := 0, slots := 0, locals := 130 }) G [.ref (a 0)] (wC G a X N M P S) (jst (some (.int (iI ((sRich N v (N 0 0)).1)))) (wC G a X N M P S)) := by
  refine Cn_in RX8 [some (.ref (a 0)), none, none, none, none] (by decide +kernel) rfl rfl rfl (Nat.le_of_ble_eq_true rfl) (fun K C hQ => ?_)
  have hLL := hI.L
  refine r_bipush (pc := 0) C dX8_richest_0 (by decide) ?_
  refine r_istore_n (pc := 2) C 1 dX8_richest_2 rfl (Nat.le_of_ble_eq_true rfl) ?_
  refine r_iconst (pc := 3) C dX8_richest_3 ?_
  refine r_istore_n (pc := 4) C 2 dX8_richest_4 rfl (Nat.le_of_ble_eq_true rfl) ?_
  refine r_iconst (pc := 5) C dX8_richest_5 ?_
  refine r_istore_n (pc := 6) C 3 dX8_richest_6 rfl (Nat.le_of_ble_eq_true rfl) ?_
  have L7 : ∀ (n : Nat) (i : Int), 0 ≤ i → i ≤ N 0 0 → N 0 0 < i + n → Wc K G 7 [some (.ref (a 0)), some (.int (iI (sRich N v i).1)), some (.int (iI (sR2 N v i))), some (.int (iI i)), none] [] (wC G a X N M P S) := by
    intro n
    induction n with
    | zero =>
      intro i h0 h1 hn; omega
    | succ n ih =>
      intro i h0 h1 hn 
      have hsc := sComp_r (T := N) (v := v) (p := i)
      have hor := sR2_or N v i
      have hrr := sRich_r hI v h0
      refine r_iload_n (pc := 7) C 3 dX8_richest_7 rfl rfl ?_
      refine r_aload_n (pc := 8) C 0 dX8_richest_8 rfl rfl ?_
      refine r_get (pc := 9) C 0 0 0 dX8_richest_9 in_X8 rfl rfl (ci := 8) rfl (by decide) tw_143 rfl rfl ?_
      refine r_get (pc := 12) C 1 0 8 dX8_richest_12 in_X6 rfl rfl (ci := 6) rfl (by decide) tw_92 rfl rfl ?_
      refine r_icmp_ge (pc := 15) (tgt := 56) C dX8_richest_15 (by decide) (by first | omega | exact zand_rng _ _ | exact zor_rng _ _ | exact zxor_rng _ _ | exact BT.r (IT.b (by assumption)) _ _) (by first | omega | exact zand_rng _ _ | exact zor_rng _ _ | exact zxor_rng _ _ | exact BT.r (IT.b (by assumption)) _ _) (fun c15 => ?_) (fun c15 => ?_)
      · refine r_iload_n (pc := 56) C 1 dX8_richest_56 rfl rfl ?_
        exact r_iret (pc := 57) C hQ dX8_richest_57 rfl (jst_ri (by rw [show N 0 0 = i by omega]) rfl)
      · refine r_aload_n (pc := 18) C 0 dX8_richest_18 rfl rfl ?_
        refine r_get (pc := 19) C 0 0 5 dX8_richest_19 in_X8 rfl rfl (ci := 8) rfl (by decide) tw_148 rfl rfl ?_
        refine r_iload_n (pc := 22) C 3 dX8_richest_22 rfl rfl ?_
        refine r_ialoadE (pc := 23) C 0 2 dX8_richest_23 rfl rfl (by decide) (by omega) (show X 2 i = sComp N v i from hjl i h0 (by omega)) ?_
        refine r_iload_n (pc := 24) C 3 dX8_richest_24 rfl rfl ?_
        refine r_icmp_ne (pc := 25) (tgt := 36) C dX8_richest_25 (by decide) (by first | omega | exact zand_rng _ _ | exact zor_rng _ _ | exact zxor_rng _ _ | exact BT.r (IT.b (by assumption)) _ _) (by first | omega | exact zand_rng _ _ | exact zor_rng _ _ | exact zxor_rng _ _ | exact BT.r (IT.b (by assumption)) _ _) (fun c25 => ?_) (fun c25 => ?_)
        · refine r_iconst (pc := 36) C dX8_richest_36 ?_
          refine r_istore (pc := 37) C dX8_richest_37 (Nat.le_of_ble_eq_true rfl) ?_
          refine r_iload (pc := 39) C dX8_richest_39 rfl ?_
          refine r_iload_n (pc := 41) C 2 dX8_richest_41 rfl rfl ?_
          refine r_icmp_le (pc := 42) (tgt := 50) C dX8_richest_42 (by decide) (by first | omega | exact zand_rng _ _ | exact zor_rng _ _ | exact zxor_rng _ _ | exact BT.r (IT.b (by assumption)) _ _) (by first | omega | exact zand_rng _ _ | exact zor_rng _ _ | exact zxor_rng _ _ | exact BT.r (IT.b (by assumption)) _ _) (fun c42 => ?_) (fun c42 => ?_)
          · refine r_iinc (pc := 50) C dX8_richest_50 rfl ?_
            refine r_goto (pc := 53) (tgt := 7) C dX8_richest_53 (by decide) ?_
            refine Wc.to (ih (i + 1) (by omega) (by omega) (by omega) ) rfl (lsub_s (by first | rfl | (first | rfl | (exfalso; omega; done) | (rw [(sR_y h0 (by omega)).1]; done) | (rw [(sR_y h0 (by omega)).2]; done) | (rw [(sR_n h0 (by omega)).1]; done) | (rw [(sR_n h0 (by omega)).2]; done))) (lsub_s (by first | rfl | (first | rfl | (exfalso; omega; done) | (rw [(sR_y h0 (by omega)).1]; done) | (rw [(sR_y h0 (by omega)).2]; done) | (rw [(sR_n h0 (by omega)).1]; done) | (rw [(sR_n h0 (by omega)).2]; done))) (lsub_s (by first | rfl | (first | rfl | (exfalso; omega; done) | (rw [(sR_y h0 (by omega)).1]; done) | (rw [(sR_y h0 (by omega)).2]; done) | (rw [(sR_n h0 (by omega)).1]; done) | (rw [(sR_n h0 (by omega)).2]; done))) (lsub_s (by first | rfl | (first | rfl | (exfalso; omega; done) | (rw [(sR_y h0 (by omega)).1]; done) | (rw [(sR_y h0 (by omega)).2]; done) | (rw [(sR_n h0 (by omega)).1]; done) | (rw [(sR_n h0 (by omega)).2]; done))) (lsub_n lsub_0))))) (by rfl)
          · refine r_iload (pc := 45) C dX8_richest_45 rfl ?_
            refine r_istore_n (pc := 47) C 2 dX8_richest_47 rfl (Nat.le_of_ble_eq_true rfl) ?_
            refine r_iload_n (pc := 48) C 3 dX8_richest_48 rfl rfl ?_
            refine r_istore_n (pc := 49) C 1 dX8_richest_49 rfl (Nat.le_of_ble_eq_true rfl) ?_
            refine r_iinc (pc := 50) C dX8_richest_50 rfl ?_
            refine r_goto (pc := 53) (tgt := 7) C dX8_richest_53 (by decide) ?_
            refine Wc.to (ih (i + 1) (by omega) (by omega) (by omega) ) rfl (lsub_s (by first | rfl | (first | rfl | (exfalso; omega; done) | (rw [(sR_y h0 (by omega)).1]; done) | (rw [(sR_y h0 (by omega)).2]; done) | (rw [(sR_n h0 (by omega)).1]; done) | (rw [(sR_n h0 (by omega)).2]; done))) (lsub_s (by first | rfl | (first | rfl | (exfalso; omega; done) | (rw [(sR_y h0 (by omega)).1]; done) | (rw [(sR_y h0 (by omega)).2]; done) | (rw [(sR_n h0 (by omega)).1]; done) | (rw [(sR_n h0 (by omega)).2]; done))) (lsub_s (by first | rfl | (first | rfl | (exfalso; omega; done) | (rw [(sR_y h0 (by omega)).1]; done) | (rw [(sR_y h0 (by omega)).2]; done) | (rw [(sR_n h0 (by omega)).1]; done) | (rw [(sR_n h0 (by omega)).2]; done))) (lsub_s (by first | rfl | (first | rfl | (exfalso; omega; done) | (rw [(sR_y h0 (by omega)).1]; done) | (rw [(sR_y h0 (by omega)).2]; done) | (rw [(sR_n h0 (by omega)).1]; done) | (rw [(sR_n h0 (by omega)).2]; done))) (lsub_n lsub_0))))) (by rfl)
        · refine r_aload_n (pc := 28) C 0 dX8_richest_28 rfl rfl ?_
          refine r_iload_n (pc := 29) C 3 dX8_richest_29 rfl rfl ?_
          refine r_callV (pc := 30) (is := [0, 1, 2, 3, 4]) C YX8_sumLedBy dX8_richest_30 tw_654 (c_X8_sumLedBy l G _ X N M P S v i hI hjl (by omega)) 0 0 rfl rfl (ci := 8) rfl rfl rfl (by decide) rfl rfl (Nat.le_of_ble_eq_true rfl) ⟨rfl, rfl, by decide, by decide⟩ (jst_i (C_uall ..) ?_)
          have hlr := sLed_r hI v i hLL.1 (Int.le_refl _)
          refine r_goto (pc := 33) (tgt := 37) C dX8_richest_33 (by decide) ?_
          refine r_istore (pc := 37) C dX8_richest_37 (Nat.le_of_ble_eq_true rfl) ?_
          refine r_iload (pc := 39) C dX8_richest_39 rfl ?_
          refine r_iload_n (pc := 41) C 2 dX8_richest_41 rfl rfl ?_
          refine r_icmp_le (pc := 42) (tgt := 50) C dX8_richest_42 (by decide) (by first | omega | exact zand_rng _ _ | exact zor_rng _ _ | exact zxor_rng _ _ | exact BT.r (IT.b (by assumption)) _ _) (by first | omega | exact zand_rng _ _ | exact zor_rng _ _ | exact zxor_rng _ _ | exact BT.r (IT.b (by assumption)) _ _) (fun c42 => ?_) (fun c42 => ?_)
          · refine r_iinc (pc := 50) C dX8_richest_50 rfl ?_
            refine r_goto (pc := 53) (tgt := 7) C dX8_richest_53 (by decide) ?_
            refine Wc.to (ih (i + 1) (by omega) (by omega) (by omega) ) rfl (lsub_s (by first | rfl | (first | rfl | (exfalso; omega; done) | (rw [(sR_y h0 (by omega)).1]; done) | (rw [(sR_y h0 (by omega)).2]; done) | (rw [(sR_n h0 (by omega)).1]; done) | (rw [(sR_n h0 (by omega)).2]; done))) (lsub_s (by first | rfl | (first | rfl | (exfalso; omega; done) | (rw [(sR_y h0 (by omega)).1]; done) | (rw [(sR_y h0 (by omega)).2]; done) | (rw [(sR_n h0 (by omega)).1]; done) | (rw [(sR_n h0 (by omega)).2]; done))) (lsub_s (by first | rfl | (first | rfl | (exfalso; omega; done) | (rw [(sR_y h0 (by omega)).1]; done) | (rw [(sR_y h0 (by omega)).2]; done) | (rw [(sR_n h0 (by omega)).1]; done) | (rw [(sR_n h0 (by omega)).2]; done))) (lsub_s (by first | rfl | (first | rfl | (exfalso; omega; done) | (rw [(sR_y h0 (by omega)).1]; done) | (rw [(sR_y h0 (by omega)).2]; done) | (rw [(sR_n h0 (by omega)).1]; done) | (rw [(sR_n h0 (by omega)).2]; done))) (lsub_n lsub_0))))) (by rfl)
          · refine r_iload (pc := 45) C dX8_richest_45 rfl ?_
            refine r_istore_n (pc := 47) C 2 dX8_richest_47 rfl (Nat.le_of_ble_eq_true rfl) ?_
            refine r_iload_n (pc := 48) C 3 dX8_richest_48 rfl rfl ?_
            refine r_istore_n (pc := 49) C 1 dX8_richest_49 rfl (Nat.le_of_ble_eq_true rfl) ?_
            refine r_iinc (pc := 50) C dX8_richest_50 rfl ?_
            refine r_goto (pc := 53) (tgt := 7) C dX8_richest_53 (by decide) ?_
            refine Wc.to (ih (i + 1) (by omega) (by omega) (by omega) ) rfl (lsub_s (by first | rfl | (first | rfl | (exfalso; omega; done) | (rw [(sR_y h0 (by omega)).1]; done) | (rw [(sR_y h0 (by omega)).2]; done) | (rw [(sR_n h0 (by omega)).1]; done) | (rw [(sR_n h0 (by omega)).2]; done))) (lsub_s (by first | rfl | (first | rfl | (exfalso; omega; done) | (rw [(sR_y h0 (by omega)).1]; done) | (rw [(sR_y h0 (by omega)).2]; done) | (rw [(sR_n h0 (by omega)).1]; done) | (rw [(sR_n h0 (by omega)).2]; done))) (lsub_s (by first | rfl | (first | rfl | (exfalso; omega; done) | (rw [(sR_y h0 (by omega)).1]; done) | (rw [(sR_y h0 (by omega)).2]; done) | (rw [(sR_n h0 (by omega)).1]; done) | (rw [(sR_n h0 (by omega)).2]; done))) (lsub_s (by first | rfl | (first | rfl | (exfalso; omega; done) | (rw [(sR_y h0 (by omega)).1]; done) | (rw [(sR_y h0 (by omega)).2]; done) | (rw [(sR_n h0 (by omega)).1]; done) | (rw [(sR_n h0 (by omega)).2]; done))) (lsub_n lsub_0))))) (by rfl)
  refine Wc.to (L7 ((N 0 0 - (0)).toNat + 1) (0) (by omega) (by omega) (by omega) ) rfl (lsub_s (by first | rfl | (first | rfl | (unfold sR2; rfl))) (lsub_s (by first | rfl | (first | rfl | (unfold sR2; rfl))) (lsub_s (by first | rfl | (first | rfl | (unfold sR2; rfl))) (lsub_s (by first | rfl | (first | rfl | (unfold sR2; rfl))) (lsub_n lsub_0))))) (by rfl)

