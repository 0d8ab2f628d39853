set_option maxRecDepth 100000 in
set_option maxHeartbeats 4000000 in
theorem c_X9_refuse (l : Launch) (G : GT) (b : Nat → Nat) (R T : Tn) (c : Int) (hc : -6 ≤ c ∧ c ≤ -1) : Cn l yX9_refuse cX9_refuse 2 (Option.some .int) ({ frames := 0, cells := 0, slots := 0, locals := 0 }) G [.ref (b 0), .int (iI c)] (wR G b R T) (jst (some (.int (iI (c)))) (wR G b (up R 1 (-c) (R 1 (-c) + 1)) T)) := by
  refine Cn_in RX9 [some (.ref (b 0)), some (.int (iI c))] (by decide +kernel) rfl rfl rfl (Nat.le_of_ble_eq_true rfl) (fun K C hQ => ?_)
  refine r_aload_n (pc := 0) C 0 dX9_refuse_0 rfl rfl ?_
  refine r_get (pc := 1) C 0 0 0 dX9_refuse_1 in_X9 rfl rfl (ci := 9) rfl (by decide) tw_741 rfl rfl ?_
  refine r_iload_n (pc := 4) C 1 dX9_refuse_4 rfl rfl ?_
  refine r_ineg (pc := 5) C dX9_refuse_5 ?_
  refine r_dup2 (pc := 6) C dX9_refuse_6 rfl rfl ?_
  refine r_iaload (pc := 7) C 1 0 dX9_refuse_7 rfl rfl (by decide) (by omega) ?_
  refine r_iconst (pc := 8) C dX9_refuse_8 ?_
  refine r_iadd (pc := 9) C dX9_refuse_9 ?_
  refine r_iastore (pc := 10) C 1 0 dX9_refuse_10 rfl rfl (by decide) (by omega) rfl (R_a1_0 ..) ?_
  refine r_iload_n (pc := 11) C 1 dX9_refuse_11 rfl rfl ?_
  exact r_iret (pc := 12) C hQ dX9_refuse_12 rfl (jst_ri (by first | rfl | omega) rfl)

set_option maxRecDepth 100000 in
set_option maxHeartbeats 4000000 in
theorem c_X9_lays (l : Launch) (G : GT) (p q : Nat) (F1 F2 : Int → Int)  : Cn l yX9_lays cX9_lays 3 none ({ frames := 0, cells := 0, slots := 0, locals := 0 }) G [.ref p, .ref q] (wL G p q F1 F2) (jst none (wL G p q F1 F1)) := by
  refine Cn_in RX9 [some (.ref p), some (.ref q), none] (by decide +kernel) rfl rfl rfl (Nat.le_of_ble_eq_true rfl) (fun K C hQ => ?_)
  refine r_iconst (pc := 0) C dX9_lays_0 ?_
  refine r_istore_n (pc := 1) C 2 dX9_lays_1 rfl (Nat.le_of_ble_eq_true rfl) ?_
  have L2 : ∀ (n : Nat) (i : Int), 0 ≤ i → i ≤ (57 : Int) → (57 : Int) < i + n → Wc K G 2 [some (.ref p), some (.ref q), some (.int (iI i))] [] (wL G p q F1 (fun j => if j < i then F1 j else F2 j)) := by
    intro n
    induction n with
    | zero =>
      intro i h0 h1 hn; omega
    | succ n ih =>
      intro i h0 h1 hn 
      refine r_iload_n (pc := 2) C 2 dX9_lays_2 rfl rfl ?_
      refine r_bipush (pc := 3) C dX9_lays_3 (by decide) ?_
      refine r_icmp_ge (pc := 5) (tgt := 20) C dX9_lays_5 (by decide) (by first | omega | exact zand_rng _ _ | exact zor_rng _ _ | exact zxor_rng _ _ | exact BT.r (IT.b (by assumption)) _ _) (by first | omega | exact zand_rng _ _ | exact zor_rng _ _ | exact zxor_rng _ _ | exact BT.r (IT.b (by assumption)) _ _) (fun c5 => ?_) (fun c5 => ?_)
      · refine Wc.cong (gs' := wL G p q F1 F1) rfl (fun H h => wL_eq h (fun j _ hj => if_pos (by omega))) ?_
        exact r_vret (pc := 20) C hQ dX9_lays_20 rfl (jst_rv rfl)
      · refine r_aload_n (pc := 8) C 1 dX9_lays_8 rfl rfl ?_
        refine r_iload_n (pc := 9) C 2 dX9_lays_9 rfl rfl ?_
        refine r_aload_n (pc := 10) C 0 dX9_lays_10 rfl rfl ?_
        refine r_iload_n (pc := 11) C 2 dX9_lays_11 rfl rfl ?_
        refine r_iaload (pc := 12) C 0 0 dX9_lays_12 rfl rfl (by decide) (by omega) ?_
        refine r_iastore (pc := 13) C 1 0 dX9_lays_13 rfl rfl (by decide) (by omega) rfl (L2_a1_0 ..) ?_
        refine r_iinc (pc := 14) C dX9_lays_14 rfl ?_
        refine r_goto (pc := 17) (tgt := 2) C dX9_lays_17 (by decide) ?_
        refine Wc.to (ih (i + 1) (by omega) (by omega) (by omega) ) rfl (lsub_s rfl (lsub_s rfl (lsub_s rfl lsub_0))) (by show wL G p q F1 (zup (fun j => if j < i then F1 j else F2 j) i (F1 i)) = _; congr 1; funext j; unfold zup; by_cases e : j = i <;> by_cases e2 : j < i <;> by_cases e3 : j < i + 1 <;> simp [e, e2, e3] <;> omega)
  refine Wc.cong (gs' := wL G p q F1 (fun j => if j < 0 then F1 j else F2 j)) rfl (fun H h => wL_eq h (fun j h0 _ => (if_neg (by omega)).symm)) ?_
  refine Wc.to (L2 (((57 : Int) - (0)).toNat + 1) (0) (by omega) (by omega) (by omega) ) rfl (lsub_s rfl (lsub_s rfl (lsub_s rfl lsub_0))) (by rfl)

set_option maxRecDepth 100000 in
set_option maxHeartbeats 4000000 in
theorem c_X9_begins (l : Launch) (G : GT) (b : Nat → Nat) (R T : Tn)  : Cn l yX9_begins cX9_begins 1 none ({ frames := 1, cells := 0, slots := 0, locals := 22 }) G [.ref (b 0)] (wR G b R T) (jst none (wR G b (up1 R 5 (flat T)) T)) := by
  refine Cn_in RX9 [some (.ref (b 0))] (by decide +kernel) rfl rfl rfl (Nat.le_of_ble_eq_true rfl) (fun K C hQ => ?_)
  refine r_aload_n (pc := 0) C 0 dX9_begins_0 rfl rfl ?_
  refine r_get (pc := 1) C 0 0 1 dX9_begins_1 in_X9 rfl rfl (ci := 9) rfl (by decide) tw_742 rfl rfl ?_
  refine r_aload_n (pc := 4) C 0 dX9_begins_4 rfl rfl ?_
  refine r_get (pc := 5) C 0 0 4 dX9_begins_5 in_X9 rfl rfl (ci := 9) rfl (by decide) tw_745 rfl rfl ?_
  refine r_callS (pc := 8) (is := [2, 5]) C YX9_lays dX9_begins_8 tw_823 (c_X9_lays l G _ _ _ _) rfl (by decide) rfl rfl (Nat.le_of_ble_eq_true rfl) ⟨rfl, rfl, by decide, by decide⟩ (jst_v (R_u2_5 ..) ?_)
  exact r_vret (pc := 11) C hQ dX9_begins_11 rfl (jst_rv rfl)

set_option maxRecDepth 100000 in
set_option maxHeartbeats 4000000 in
theorem c_X9_ends (l : Launch) (G : GT) (b : Nat → Nat) (R T : Tn) (T0 : Tn) (h5 : R 5 = flat T0) : Cn l yX9_ends cX9_ends 1 none ({ frames := 1, cells := 0, slots := 0, locals := 22 }) G [.ref (b 0)] (wR G b R T) (jst none (wR G b R T0)) := by
  refine Cn_in RX9 [some (.ref (b 0))] (by decide +kernel) rfl rfl rfl (Nat.le_of_ble_eq_true rfl) (fun K C hQ => ?_)
  refine r_aload_n (pc := 0) C 0 dX9_ends_0 rfl rfl ?_
  refine r_get (pc := 1) C 0 0 4 dX9_ends_1 in_X9 rfl rfl (ci := 9) rfl (by decide) tw_745 rfl rfl ?_
  refine r_aload_n (pc := 4) C 0 dX9_ends_4 rfl rfl ?_
  refine r_get (pc := 5) C 0 0 1 dX9_ends_5 in_X9 rfl rfl (ci := 9) rfl (by decide) tw_742 rfl rfl ?_
  refine r_callS (pc := 8) (is := [5, 2]) C YX9_lays dX9_ends_8 tw_823 (c_X9_lays l G _ _ _ _) rfl (by decide) rfl rfl (Nat.le_of_ble_eq_true rfl) ⟨rfl, rfl, by decide, by decide⟩ (jst_v (R_ends (Or.inl rfl) h5) ?_)
  exact r_vret (pc := 11) C hQ dX9_ends_11 rfl (jst_rv rfl)

set_option maxRecDepth 100000 in
set_option maxHeartbeats 4000000 in
theorem c_X9_isLoft (l : Launch) (G : GT) (b : Nat → Nat) (R T : Tn) (z : Int) (hI : IT T) (hz : -2147483648 ≤ z ∧ z < 2147483648) : Cn l yX9_isLoft cX9_isLoft 2 (Option.some .boolean) ({ frames := 1, cells := 0, slots := 0, locals := 21 }) G [.ref (b 0), .int (iI z)] (wR G b R T) (jst (some (.int (iI (zb (0 ≤ z ∧ z < T 0 0))))) (wR G b R T)) := by
  refine Cn_in RX9 [some (.ref (b 0)), some (.int (iI z))] (by decide +kernel) rfl rfl rfl (Nat.le_of_ble_eq_true rfl) (fun K C hQ => ?_)
  refine r_iload_n (pc := 0) C 1 dX9_isLoft_0 rfl rfl ?_
  refine r_aload_n (pc := 1) C 0 dX9_isLoft_1 rfl rfl ?_
  refine r_get (pc := 2) C 0 0 1 dX9_isLoft_2 in_X9 rfl rfl (ci := 9) rfl (by decide) tw_742 rfl rfl ?_
  refine r_iconst (pc := 5) C dX9_isLoft_5 ?_
  refine r_ialoadE (pc := 6) C 2 0 dX9_isLoft_6 rfl rfl (by decide) (by omega) (flat_0 _ (by decide)) ?_
  refine r_callS (pc := 7) (is := []) C YX9_isIn dX9_isLoft_7 tw_809 (c_X9_isIn l G _ _ (by first | assumption | omega | exact zand_rng _ _ | exact zor_rng _ _ | exact zxor_rng _ _ | exact BT.r (IT.b (by assumption)) _ _) (by first | assumption | omega | exact zand_rng _ _ | exact zor_rng _ _ | exact zxor_rng _ _ | exact BT.r (IT.b (by assumption)) _ _)) rfl (by decide) rfl rfl (Nat.le_of_ble_eq_true rfl) ⟨rfl, rfl, by decide, by decide⟩ (jst_i rfl ?_)
  exact r_zret (pc := 10) C hQ dX9_isLoft_10 (by first | exact zb_01 _ | omega) rfl (jst_ri (by rfl) rfl)

set_option maxRecDepth 100000 in
set_option maxHeartbeats 4000000 in
theorem c_X9_isDove (l : Launch) (G : GT) (b : Nat → Nat) (R T : Tn) (z : Int) (hI : IT T) (hz : -2147483648 ≤ z ∧ z < 2147483648) : Cn l yX9_isDove cX9_isDove 2 (Option.some .boolean) ({ frames := 1, cells := 0, slots := 0, locals := 21 }) G [.ref (b 0), .int (iI z)] (wR G b R T) (jst (some (.int (iI (zb (0 ≤ z ∧ z < T 0 1))))) (wR G b R T)) := by
  refine Cn_in RX9 [some (.ref (b 0)), some (.int (iI z))] (by decide +kernel) rfl rfl rfl (Nat.le_of_ble_eq_true rfl) (fun K C hQ => ?_)
  refine r_iload_n (pc := 0) C 1 dX9_isDove_0 rfl rfl ?_
  refine r_aload_n (pc := 1) C 0 dX9_isDove_1 rfl rfl ?_
  refine r_get (pc := 2) C 0 0 1 dX9_isDove_2 in_X9 rfl rfl (ci := 9) rfl (by decide) tw_742 rfl rfl ?_
  refine r_iconst (pc := 5) C dX9_isDove_5 ?_
  refine r_ialoadE (pc := 6) C 2 0 dX9_isDove_6 rfl rfl (by decide) (by omega) (flat_0 _ (by decide)) ?_
  refine r_callS (pc := 7) (is := []) C YX9_isIn dX9_isDove_7 tw_809 (c_X9_isIn l G _ _ (by first | assumption | omega | exact zand_rng _ _ | exact zor_rng _ _ | exact zxor_rng _ _ | exact BT.r (IT.b (by assumption)) _ _) (by first | assumption | omega | exact zand_rng _ _ | exact zor_rng _ _ | exact zxor_rng _ _ | exact BT.r (IT.b (by assumption)) _ _)) rfl (by decide) rfl rfl (Nat.le_of_ble_eq_true rfl) ⟨rfl, rfl, by decide, by decide⟩ (jst_i rfl ?_)
  exact r_zret (pc := 10) C hQ dX9_isDove_10 (by first | exact zb_01 _ | omega) rfl (jst_ri (by rfl) rfl)

set_option maxRecDepth 100000 in
set_option maxHeartbeats 4000000 in
theorem c_X9_get0 (l : Launch) (G : GT) (b : Nat → Nat) (R T : Tn) (d : Int) (hd : 0 ≤ d ∧ d < 8) : Cn l yX9_get cX9_get 3 (Option.some .int) ({ frames := 0, cells := 0, slots := 0, locals := 0 }) G [.ref (b 0), .int (iI d), .int (iI 0)] (wR G b R T) (jst (some (.int (iI (T 3 d)))) (wR G b R T)) := by
  refine Cn_in RX9 [some (.ref (b 0)), some (.int (iI d)), some (.int (iI 0))] (by decide +kernel) rfl rfl rfl (Nat.le_of_ble_eq_true rfl) (fun K C hQ => ?_)
  refine r_aload_n (pc := 0) C 0 dX9_get_0 rfl rfl ?_
  refine r_get (pc := 1) C 0 0 1 dX9_get_1 in_X9 rfl rfl (ci := 9) rfl (by decide) tw_742 rfl rfl ?_
  refine r_bipush (pc := 4) C dX9_get_4 (by decide) ?_
  refine r_iconst (pc := 6) C dX9_get_6 ?_
  refine r_iload_n (pc := 7) C 1 dX9_get_7 rfl rfl ?_
  refine r_imul (pc := 8) C dX9_get_8 ?_
  refine r_iadd (pc := 9) C dX9_get_9 ?_
  refine r_iload_n (pc := 10) C 2 dX9_get_10 rfl rfl ?_
  refine r_iadd (pc := 11) C dX9_get_11 ?_
  refine r_ialoadE (pc := 12) C 2 0 dX9_get_12 rfl rfl (by decide) (by omega) (show flat T (17 + 5 * d + 0) = T 3 d from flat_d T (by omega) (by decide)) ?_
  exact r_iret (pc := 13) C hQ dX9_get_13 rfl (jst_ri (by first | rfl | omega) rfl)

set_option maxRecDepth 100000 in
set_option maxHeartbeats 4000000 in
theorem c_X9_puts0 (l : Launch) (G : GT) (b : Nat → Nat) (R T : Tn) (d v : Int) (hd : 0 ≤ d ∧ d < 8) : Cn l yX9_puts cX9_puts 4 none ({ frames := 0, cells := 0, slots := 0, locals := 0 }) G [.ref (b 0), .int (iI d), .int (iI 0), .int (iI v)] (wR G b R T) (jst none (wR G b R (up T 3 d v))) := by
  refine Cn_in RX9 [some (.ref (b 0)), some (.int (iI d)), some (.int (iI 0)), some (.int (iI v))] (by decide +kernel) rfl rfl rfl (Nat.le_of_ble_eq_true rfl) (fun K C hQ => ?_)
  refine r_aload_n (pc := 0) C 0 dX9_puts_0 rfl rfl ?_
  refine r_get (pc := 1) C 0 0 1 dX9_puts_1 in_X9 rfl rfl (ci := 9) rfl (by decide) tw_742 rfl rfl ?_
  refine r_bipush (pc := 4) C dX9_puts_4 (by decide) ?_
  refine r_iconst (pc := 6) C dX9_puts_6 ?_
  refine r_iload_n (pc := 7) C 1 dX9_puts_7 rfl rfl ?_
  refine r_imul (pc := 8) C dX9_puts_8 ?_
  refine r_iadd (pc := 9) C dX9_puts_9 ?_
  refine r_iload_n (pc := 10) C 2 dX9_puts_10 rfl rfl ?_
  refine r_iadd (pc := 11) C dX9_puts_11 ?_
  refine r_iload_n (pc := 12) C 3 dX9_puts_12 rfl rfl ?_
  refine r_iastore (pc := 13) C 2 0 dX9_puts_13 rfl rfl (by decide) (by omega) rfl (R_sd (k := 0) _ _ _ _ (by omega) (by decide)) ?_
  exact r_vret (pc := 14) C hQ dX9_puts_14 rfl (jst_rv rfl)

set_option maxRecDepth 100000 in
set_option maxHeartbeats 4000000 in
theorem c_X9_get1 (l : Launch) (G : GT) (b : Nat → Nat) (R T : Tn) (d : Int) (hd : 0 ≤ d ∧ d < 8) : Cn l yX9_get cX9_get 3 (Option.some .int) ({ frames := 0, cells := 0, slots := 0, locals := 0 }) G [.ref (b 0), .int (iI d), .int (iI 1)] (wR G b R T) (jst (some (.int (iI (T 4 d)))) (wR G b R T)) := by
  refine Cn_in RX9 [some (.ref (b 0)), some (.int (iI d)), some (.int (iI 1))] (by decide +kernel) rfl rfl rfl (Nat.le_of_ble_eq_true rfl) (fun K C hQ => ?_)
  refine r_aload_n (pc := 0) C 0 dX9_get_0 rfl rfl ?_
  refine r_get (pc := 1) C 0 0 1 dX9_get_1 in_X9 rfl rfl (ci := 9) rfl (by decide) tw_742 rfl rfl ?_
  refine r_bipush (pc := 4) C dX9_get_4 (by decide) ?_
  refine r_iconst (pc := 6) C dX9_get_6 ?_
  refine r_iload_n (pc := 7) C 1 dX9_get_7 rfl rfl ?_
  refine r_imul (pc := 8) C dX9_get_8 ?_
  refine r_iadd (pc := 9) C dX9_get_9 ?_
  refine r_iload_n (pc := 10) C 2 dX9_get_10 rfl rfl ?_
  refine r_iadd (pc := 11) C dX9_get_11 ?_
  refine r_ialoadE (pc := 12) C 2 0 dX9_get_12 rfl rfl (by decide) (by omega) (show flat T (17 + 5 * d + 1) = T 4 d from flat_d T (by omega) (by decide)) ?_
  exact r_iret (pc := 13) C hQ dX9_get_13 rfl (jst_ri (by first | rfl | omega) rfl)

set_option maxRecDepth 100000 in
set_option maxHeartbeats 4000000 in
theorem c_X9_puts1 (l : Launch) (G : GT) (b : Nat → Nat) (R T : Tn) (d v : Int) (hd : 0 ≤ d ∧ d < 8) : Cn l yX9_puts cX9_puts 4 none ({ frames := 0, cells := 0, slots := 0, locals := 0 }) G [.ref (b 0), .int (iI d), .int (iI 1), .int (iI v)] (wR G b R T) (jst none (wR G b R (up T 4 d v))) := by
  refine Cn_in RX9 [some (.ref (b 0)), some (.int (iI d)), some (.int (iI 1)), some (.int (iI v))] (by decide +kernel) rfl rfl rfl (Nat.le_of_ble_eq_true rfl) (fun K C hQ => ?_)
  refine r_aload_n (pc := 0) C 0 dX9_puts_0 rfl rfl ?_
  refine r_get (pc := 1) C 0 0 1 dX9_puts_1 in_X9 rfl rfl (ci := 9) rfl (by decide) tw_742 rfl rfl ?_
  refine r_bipush (pc := 4) C dX9_puts_4 (by decide) ?_
  refine r_iconst (pc := 6) C dX9_puts_6 ?_
  refine r_iload_n (pc := 7) C 1 dX9_puts_7 rfl rfl ?_
  refine r_imul (pc := 8) C dX9_puts_8 ?_
  refine r_iadd (pc := 9) C dX9_puts_9 ?_
  refine r_iload_n (pc := 10) C 2 dX9_puts_10 rfl rfl ?_
  refine r_iadd (pc := 11) C dX9_puts_11 ?_
  refine r_iload_n (pc := 12) C 3 dX9_puts_12 rfl rfl ?_
  refine r_iastore (pc := 13) C 2 0 dX9_puts_13 rfl rfl (by decide) (by omega) rfl (R_sd (k := 1) _ _ _ _ (by omega) (by decide)) ?_
  exact r_vret (pc := 14) C hQ dX9_puts_14 rfl (jst_rv rfl)

set_option maxRecDepth 100000 in
set_option maxHeartbeats 4000000 in
theorem c_X9_get2 (l : Launch) (G : GT) (b : Nat → Nat) (R T : Tn) (d : Int) (hd : 0 ≤ d ∧ d < 8) : Cn l yX9_get cX9_get 3 (Option.some .int) ({ frames := 0, cells := 0, slots := 0, locals := 0 }) G [.ref (b 0), .int (iI d), .int (iI 2)] (wR G b R T) (jst (some (.int (iI (T 5 d)))) (wR G b R T)) := by
  refine Cn_in RX9 [some (.ref (b 0)), some (.int (iI d)), some (.int (iI 2))] (by decide +kernel) rfl rfl rfl (Nat.le_of_ble_eq_true rfl) (fun K C hQ => ?_)
  refine r_aload_n (pc := 0) C 0 dX9_get_0 rfl rfl ?_
  refine r_get (pc := 1) C 0 0 1 dX9_get_1 in_X9 rfl rfl (ci := 9) rfl (by decide) tw_742 rfl rfl ?_
  refine r_bipush (pc := 4) C dX9_get_4 (by decide) ?_
  refine r_iconst (pc := 6) C dX9_get_6 ?_
  refine r_iload_n (pc := 7) C 1 dX9_get_7 rfl rfl ?_
  refine r_imul (pc := 8) C dX9_get_8 ?_
  refine r_iadd (pc := 9) C dX9_get_9 ?_
  refine r_iload_n (pc := 10) C 2 dX9_get_10 rfl rfl ?_
  refine r_iadd (pc := 11) C dX9_get_11 ?_
  refine r_ialoadE (pc := 12) C 2 0 dX9_get_12 rfl rfl (by decide) (by omega) (show flat T (17 + 5 * d + 2) = T 5 d from flat_d T (by omega) (by decide)) ?_
  exact r_iret (pc := 13) C hQ dX9_get_13 rfl (jst_ri (by first | rfl | omega) rfl)

set_option maxRecDepth 100000 in
set_option maxHeartbeats 4000000 in
theorem c_X9_puts2 (l : Launch) (G : GT) (b : Nat → Nat) (R T : Tn) (d v : Int) (hd : 0 ≤ d ∧ d < 8) : Cn l yX9_puts cX9_puts 4 none ({ frames := 0, cells := 0, slots := 0, locals := 0 }) G [.ref (b 0), .int (iI d), .int (iI 2), .int (iI v)] (wR G b R T) (jst none (wR G b R (up T 5 d v))) := by
  refine Cn_in RX9 [some (.ref (b 0)), some (.int (iI d)), some (.int (iI 2)), some (.int (iI v))] (by decide +kernel) rfl rfl rfl (Nat.le_of_ble_eq_true rfl) (fun K C hQ => ?_)
  refine r_aload_n (pc := 0) C 0 dX9_puts_0 rfl rfl ?_
  refine r_get (pc := 1) C 0 0 1 dX9_puts_1 in_X9 rfl rfl (ci := 9) rfl (by decide) tw_742 rfl rfl ?_
  refine r_bipush (pc := 4) C dX9_puts_4 (by decide) ?_
  refine r_iconst (pc := 6) C dX9_puts_6 ?_
  refine r_iload_n (pc := 7) C 1 dX9_puts_7 rfl rfl ?_
  refine r_imul (pc := 8) C dX9_puts_8 ?_
  refine r_iadd (pc := 9) C dX9_puts_9 ?_
  refine r_iload_n (pc := 10) C 2 dX9_puts_10 rfl rfl ?_
  refine r_iadd (pc := 11) C dX9_puts_11 ?_
  refine r_iload_n (pc := 12) C 3 dX9_puts_12 rfl rfl ?_
  refine r_iastore (pc := 13) C 2 0 dX9_puts_13 rfl rfl (by decide) (by omega) rfl (R_sd (k := 2) _ _ _ _ (by omega) (by decide)) ?_
  exact r_vret (pc := 14) C hQ dX9_puts_14 rfl (jst_rv rfl)

set_option maxRecDepth 100000 in
set_option maxHeartbeats 4000000 in
theorem c_X9_get3 (l : Launch) (G : GT) (b : Nat → Nat) (R T : Tn) (d : Int) (hd : 0 ≤ d ∧ d < 8) : Cn l yX9_get cX9_get 3 (Option.some .int) ({ frames := 0, cells := 0, slots := 0, locals := 0 }) G [.ref (b 0), .int (iI d), .int (iI 3)] (wR G b R T) (jst (some (.int (iI (T 6 d)))) (wR G b R T)) := by
  refine Cn_in RX9 [some (.ref (b 0)), some (.int (iI d)), some (.int (iI 3))] (by decide +kernel) rfl rfl rfl (Nat.le_of_ble_eq_true rfl) (fun K C hQ => ?_)
  refine r_aload_n (pc := 0) C 0 dX9_get_0 rfl rfl ?_
  refine r_get (pc := 1) C 0 0 1 dX9_get_1 in_X9 rfl rfl (ci := 9) rfl (by decide) tw_742 rfl rfl ?_
  refine r_bipush (pc := 4) C dX9_get_4 (by decide) ?_
  refine r_iconst (pc := 6) C dX9_get_6 ?_
  refine r_iload_n (pc := 7) C 1 dX9_get_7 rfl rfl ?_
  refine r_imul (pc := 8) C dX9_get_8 ?_
  refine r_iadd (pc := 9) C dX9_get_9 ?_
  refine r_iload_n (pc := 10) C 2 dX9_get_10 rfl rfl ?_
  refine r_iadd (pc := 11) C dX9_get_11 ?_
  refine r_ialoadE (pc := 12) C 2 0 dX9_get_12 rfl rfl (by decide) (by omega) (show flat T (17 + 5 * d + 3) = T 6 d from flat_d T (by omega) (by decide)) ?_
  exact r_iret (pc := 13) C hQ dX9_get_13 rfl (jst_ri (by first | rfl | omega) rfl)

set_option maxRecDepth 100000 in
set_option maxHeartbeats 4000000 in
theorem c_X9_puts3 (l : Launch) (G : GT) (b : Nat → Nat) (R T : Tn) (d v : Int) (hd : 0 ≤ d ∧ d < 8) : Cn l yX9_puts cX9_puts 4 none ({ frames := 0, cells := 0, slots := 0, locals := 0 }) G [.ref (b 0), .int (iI d), .int (iI 3), .int (iI v)] (wR G b R T) (jst none (wR G b R (up T 6 d v))) := by
  refine Cn_in RX9 [some (.ref (b 0)), some (.int (iI d)), some (.int (iI 3)), some (.int (iI v))] (by decide +kernel) rfl rfl rfl (Nat.le_of_ble_eq_true rfl) (fun K C hQ => ?_)
  refine r_aload_n (pc := 0) C 0 dX9_puts_0 rfl rfl ?_
  refine r_get (pc := 1) C 0 0 1 dX9_puts_1 in_X9 rfl rfl (ci := 9) rfl (by decide) tw_742 rfl rfl ?_
  refine r_bipush (pc := 4) C dX9_puts_4 (by decide) ?_
  refine r_iconst (pc := 6) C dX9_puts_6 ?_
  refine r_iload_n (pc := 7) C 1 dX9_puts_7 rfl rfl ?_
  refine r_imul (pc := 8) C dX9_puts_8 ?_
  refine r_iadd (pc := 9) C dX9_puts_9 ?_
  refine r_iload_n (pc := 10) C 2 dX9_puts_10 rfl rfl ?_
  refine r_iadd (pc := 11) C dX9_puts_11 ?_
  refine r_iload_n (pc := 12) C 3 dX9_puts_12 rfl rfl ?_
  refine r_iastore (pc := 13) C 2 0 dX9_puts_13 rfl rfl (by decide) (by omega) rfl (R_sd (k := 3) _ _ _ _ (by omega) (by decide)) ?_
  exact r_vret (pc := 14) C hQ dX9_puts_14 rfl (jst_rv rfl)

set_option maxRecDepth 100000 in
set_option maxHeartbeats 4000000 in
theorem c_X9_get4 (l : Launch) (G : GT) (b : Nat → Nat) (R T : Tn) (d : Int) (hd : 0 ≤ d ∧ d < 8) : Cn l yX9_get cX9_get 3 (Option.some .int) ({ frames := 0, cells := 0, slots := 0, locals := 0 }) G [.ref (b 0), .int (iI d), .int (iI 4)] (wR G b R T) (jst (some (.int (iI (T 7 d)))) (wR G b R T)) := by
  refine Cn_in RX9 [some (.ref (b 0)), some (.int (iI d)), some (.int (iI 4))] (by decide +kernel) rfl rfl rfl (Nat.le_of_ble_eq_true rfl) (fun K C hQ => ?_)
  refine r_aload_n (pc := 0) C 0 dX9_get_0 rfl rfl ?_
  refine r_get (pc := 1) C 0 0 1 dX9_get_1 in_X9 rfl rfl (ci := 9) rfl (by decide) tw_742 rfl rfl ?_
  refine r_bipush (pc := 4) C dX9_get_4 (by decide) ?_
  refine r_iconst (pc := 6) C dX9_get_6 ?_
  refine r_iload_n (pc := 7) C 1 dX9_get_7 rfl rfl ?_
  refine r_imul (pc := 8) C dX9_get_8 ?_
  refine r_iadd (pc := 9) C dX9_get_9 ?_
  refine r_iload_n (pc := 10) C 2 dX9_get_10 rfl rfl ?_
  refine r_iadd (pc := 11) C dX9_get_11 ?_
  refine r_ialoadE (pc := 12) C 2 0 dX9_get_12 rfl rfl (by decide) (by omega) (show flat T (17 + 5 * d + 4) = T 7 d from flat_d T (by omega) (by decide)) ?_
  exact r_iret (pc := 13) C hQ dX9_get_13 rfl (jst_ri (by first | rfl | omega) rfl)

set_option maxRecDepth 100000 in
set_option maxHeartbeats 4000000 in
theorem c_X9_puts4 (l : Launch) (G : GT) (b : Nat → Nat) (R T : Tn) (d v : Int) (hd : 0 ≤ d ∧ d < 8) : Cn l yX9_puts cX9_puts 4 none ({ frames := 0, cells := 0, slots := 0, locals := 0 }) G [.ref (b 0), .int (iI d), .int (iI 4), .int (iI v)] (wR G b R T) (jst none (wR G b R (up T 7 d v))) := by
  refine Cn_in RX9 [some (.ref (b 0)), some (.int (iI d)), some (.int (iI 4)), some (.int (iI v))] (by decide +kernel) rfl rfl rfl (Nat.le_of_ble_eq_true rfl) (fun K C hQ => ?_)
  refine r_aload_n (pc := 0) C 0 dX9_puts_0 rfl rfl ?_
  refine r_get (pc := 1) C 0 0 1 dX9_puts_1 in_X9 rfl rfl (ci := 9) rfl (by decide) tw_742 rfl rfl ?_
  refine r_bipush (pc := 4) C dX9_puts_4 (by decide) ?_
  refine r_iconst (pc := 6) C dX9_puts_6 ?_
  refine r_iload_n (pc := 7) C 1 dX9_puts_7 rfl rfl ?_
  refine r_imul (pc := 8) C dX9_puts_8 ?_
  refine r_iadd (pc := 9) C dX9_puts_9 ?_
  refine r_iload_n (pc := 10) C 2 dX9_puts_10 rfl rfl ?_
  refine r_iadd (pc := 11) C dX9_puts_11 ?_
  refine r_iload_n (pc := 12) C 3 dX9_puts_12 rfl rfl ?_
  refine r_iastore (pc := 13) C 2 0 dX9_puts_13 rfl rfl (by decide) (by omega) rfl (R_sd (k := 4) _ _ _ _ (by omega) (by decide)) ?_
  exact r_vret (pc := 14) C hQ dX9_puts_14 rfl (jst_rv rfl)

set_option maxRecDepth 100000 in
set_option maxHeartbeats 4000000 in
theorem c_X9_getk (l : Launch) (G : GT) (b : Nat → Nat) (R T : Tn) (d k : Int) (hd : 0 ≤ d ∧ d < 8) (hk : 0 ≤ k ∧ k < 5) : Cn l yX9_get cX9_get 3 (Option.some .int) ({ frames := 0, cells := 0, slots := 0, locals := 0 }) G [.ref (b 0), .int (iI d), .int (iI k)] (wR G b R T) (jst (some (.int (iI (T (3 + k.toNat) d)))) (wR G b R T)) := by
  refine Cn_in RX9 [some (.ref (b 0)), some (.int (iI d)), some (.int (iI k))] (by decide +kernel) rfl rfl rfl (Nat.le_of_ble_eq_true rfl) (fun K C hQ => ?_)
  refine r_aload_n (pc := 0) C 0 dX9_get_0 rfl rfl ?_
  refine r_get (pc := 1) C 0 0 1 dX9_get_1 in_X9 rfl rfl (ci := 9) rfl (by decide) tw_742 rfl rfl ?_
  refine r_bipush (pc := 4) C dX9_get_4 (by decide) ?_
  refine r_iconst (pc := 6) C dX9_get_6 ?_
  refine r_iload_n (pc := 7) C 1 dX9_get_7 rfl rfl ?_
  refine r_imul (pc := 8) C dX9_get_8 ?_
  refine r_iadd (pc := 9) C dX9_get_9 ?_
  refine r_iload_n (pc := 10) C 2 dX9_get_10 rfl rfl ?_
  refine r_iadd (pc := 11) C dX9_get_11 ?_
  refine r_ialoadE (pc := 12) C 2 0 dX9_get_12 rfl rfl (by decide) (by omega) (flat_d T (by omega) (by omega)) ?_
  exact r_iret (pc := 13) C hQ dX9_get_13 rfl (jst_ri (by first | rfl | omega) rfl)

set_option maxRecDepth 100000 in
set_option maxHeartbeats 4000000 in
theorem c_X9_isLost (l : Launch) (G : GT) (b : Nat → Nat) (R T : Tn) (d : Int) (hI : IT T) (hd : 0 ≤ d ∧ d < T 0 1) : Cn l yX9_isLost cX9_isLost 2 (Option.some .boolean) ({ frames := 1, cells := 0, slots := 0, locals := 22 }) G [.ref (b 0), .int (iI d)] (wR G b R T) (jst (some (.int (iI (zb (T 6 d = 9))))) (wR G b R T)) := by
  refine Cn_in RX9 [some (.ref (b 0)), some (.int (iI d))] (by decide +kernel) rfl rfl rfl (Nat.le_of_ble_eq_true rfl) (fun K C hQ => ?_)
  have hDD := hI.D
  refine r_aload_n (pc := 0) C 0 dX9_isLost_0 rfl rfl ?_
  refine r_iload_n (pc := 1) C 1 dX9_isLost_1 rfl rfl ?_
  refine r_iconst (pc := 2) C dX9_isLost_2 ?_
  refine r_callV (pc := 3) (is := [0, 1, 2, 3, 4, 5, 6, 7, 8]) C YX9_get dX9_isLost_3 tw_842 (c_X9_get3 l G _ _ _ _ (by first | assumption | omega | exact zand_rng _ _ | exact zor_rng _ _ | exact zxor_rng _ _ | exact BT.r (IT.b (by assumption)) _ _)) 0 0 rfl rfl (ci := 9) rfl rfl rfl (by decide) rfl rfl (Nat.le_of_ble_eq_true rfl) ⟨rfl, rfl, by decide, by decide⟩ (jst_i (R_uall ..) ?_)
  refine r_bipush (pc := 6) C dX9_isLost_6 (by decide) ?_
  refine r_icmp_ne (pc := 8) (tgt := 15) C dX9_isLost_8 (by decide) (by first | omega | exact zand_rng _ _ | exact zor_rng _ _ | exact zxor_rng _ _ | exact BT.r (IT.b (by assumption)) _ _) (by first | omega | exact zand_rng _ _ | exact zor_rng _ _ | exact zxor_rng _ _ | exact BT.r (IT.b (by assumption)) _ _) (fun c8 => ?_) (fun c8 => ?_)
  · refine r_iconst (pc := 15) C dX9_isLost_15 ?_
    exact r_zret (pc := 16) C hQ dX9_isLost_16 (by decide) rfl (jst_ri (by first | rw [zb_t (by assumption)] | rw [zb_f (by assumption)]) rfl)
  · refine r_iconst (pc := 11) C dX9_isLost_11 ?_
    refine r_goto (pc := 12) (tgt := 16) C dX9_isLost_12 (by decide) ?_
    exact r_zret (pc := 16) C hQ dX9_isLost_16 (by decide) rfl (jst_ri (by first | rw [zb_t (by assumption)] | rw [zb_f (by assumption)]) rfl)

set_option maxRecDepth 100000 in
set_option maxHeartbeats 4000000 in
theorem c_X9_wayOf (l : Launch) (G : GT) (b : Nat → Nat) (R T : Tn) (x y : Int) (hI : IT T) (hx0 : 0 ≤ x ∧ x < T 0 0) (hy0 : 0 ≤ y ∧ y < T 0 0) : Cn l yX9_wayOf cX9_wayOf 3 (Option.some .int) ({ frames := 1, cells := 0, slots := 0, locals := 20 }) G [.ref (b 0), .int (iI x), .int (iI y)] (wR G b R T) (jst (some (.int (iI (sWay T x y)))) (wR G b R T)) := by
  refine Cn_in RX9 [some (.ref (b 0)), some (.int (iI x)), some (.int (iI y))] (by decide +kernel) rfl rfl rfl (Nat.le_of_ble_eq_true rfl) (fun K C hQ => ?_)
  have hBB := hI.b
  have hLL := hI.L
  have hDD := hI.D
  have hx := hI.l hx0.1 hx0.2
  have hy := hI.l hy0.1 hy0.2
  refine r_aload_n (pc := 0) C 0 dX9_wayOf_0 rfl rfl ?_
  refine r_get (pc := 1) C 0 0 1 dX9_wayOf_1 in_X9 rfl rfl (ci := 9) rfl (by decide) tw_742 rfl rfl ?_
  refine r_iconst (pc := 4) C dX9_wayOf_4 ?_
  refine r_iconst (pc := 5) C dX9_wayOf_5 ?_
  refine r_iload_n (pc := 6) C 1 dX9_wayOf_6 rfl rfl ?_
  refine r_imul (pc := 7) C dX9_wayOf_7 ?_
  refine r_iadd (pc := 8) C dX9_wayOf_8 ?_
  refine r_ialoadE (pc := 9) C 2 0 dX9_wayOf_9 rfl rfl (by decide) (by omega) (flat_x T (by omega)) ?_
  refine r_aload_n (pc := 10) C 0 dX9_wayOf_10 rfl rfl ?_
  refine r_get (pc := 11) C 0 0 1 dX9_wayOf_11 in_X9 rfl rfl (ci := 9) rfl (by decide) tw_742 rfl rfl ?_
  refine r_iconst (pc := 14) C dX9_wayOf_14 ?_
  refine r_iconst (pc := 15) C dX9_wayOf_15 ?_
  refine r_iload_n (pc := 16) C 2 dX9_wayOf_16 rfl rfl ?_
  refine r_imul (pc := 17) C dX9_wayOf_17 ?_
  refine r_iadd (pc := 18) C dX9_wayOf_18 ?_
  refine r_ialoadE (pc := 19) C 2 0 dX9_wayOf_19 rfl rfl (by decide) (by omega) (flat_x T (by omega)) ?_
  refine r_isub (pc := 20) C dX9_wayOf_20 ?_
  refine r_callS (pc := 21) (is := []) C YX9_amount dX9_wayOf_21 tw_874 (c_X9_amount l G _ (by first | assumption | omega | exact zand_rng _ _ | exact zor_rng _ _ | exact zxor_rng _ _ | exact BT.r (IT.b (by assumption)) _ _)) rfl (by decide) rfl rfl (Nat.le_of_ble_eq_true rfl) ⟨rfl, rfl, by decide, by decide⟩ (jst_i rfl ?_)
  refine r_aload_n (pc := 24) C 0 dX9_wayOf_24 rfl rfl ?_
  refine r_get (pc := 25) C 0 0 1 dX9_wayOf_25 in_X9 rfl rfl (ci := 9) rfl (by decide) tw_742 rfl rfl ?_
  refine r_iconst (pc := 28) C dX9_wayOf_28 ?_
  refine r_iconst (pc := 29) C dX9_wayOf_29 ?_
  refine r_iload_n (pc := 30) C 1 dX9_wayOf_30 rfl rfl ?_
  refine r_imul (pc := 31) C dX9_wayOf_31 ?_
  refine r_iadd (pc := 32) C dX9_wayOf_32 ?_
  refine r_iconst (pc := 33) C dX9_wayOf_33 ?_
  refine r_iadd (pc := 34) C dX9_wayOf_34 ?_
  refine r_ialoadE (pc := 35) C 2 0 dX9_wayOf_35 rfl rfl (by decide) (by omega) (flat_y T (by omega)) ?_
  refine r_aload_n (pc := 36) C 0 dX9_wayOf_36 rfl rfl ?_
  refine r_get (pc := 37) C 0 0 1 dX9_wayOf_37 in_X9 rfl rfl (ci := 9) rfl (by decide) tw_742 rfl rfl ?_
  refine r_iconst (pc := 40) C dX9_wayOf_40 ?_
  refine r_iconst (pc := 41) C dX9_wayOf_41 ?_
  refine r_iload_n (pc := 42) C 2 dX9_wayOf_42 rfl rfl ?_
  refine r_imul (pc := 43) C dX9_wayOf_43 ?_
  refine r_iadd (pc := 44) C dX9_wayOf_44 ?_
  refine r_iconst (pc := 45) C dX9_wayOf_45 ?_
  refine r_iadd (pc := 46) C dX9_wayOf_46 ?_
  refine r_ialoadE (pc := 47) C 2 0 dX9_wayOf_47 rfl rfl (by decide) (by omega) (flat_y T (by omega)) ?_
  refine r_isub (pc := 48) C dX9_wayOf_48 ?_
  refine r_callS (pc := 49) (is := []) C YX9_amount dX9_wayOf_49 tw_874 (c_X9_amount l G _ (by first | assumption | omega | exact zand_rng _ _ | exact zor_rng _ _ | exact zxor_rng _ _ | exact BT.r (IT.b (by assumption)) _ _)) rfl (by decide) rfl rfl (Nat.le_of_ble_eq_true rfl) ⟨rfl, rfl, by decide, by decide⟩ (jst_i rfl ?_)
  refine r_iadd (pc := 52) C dX9_wayOf_52 ?_
  exact r_iret (pc := 53) C hQ dX9_wayOf_53 rfl (jst_ri (by rfl) rfl)

set_option maxRecDepth 100000 in
set_option maxHeartbeats 4000000 in
theorem c_X9_nearestOther (l : Launch) (G : GT) (b : Nat → Nat) (R T : Tn) (f : Int) (hI : IT T) (hf : 0 ≤ f ∧ f < T 0 0) : Cn l yX9_nearestOther cX9_nearestOther 4 (Option.some .int) ({ frames := 2, cells := 0, slots := 0, locals := 42 }) G [.ref (b 0), .int (iI f)] (wR G b R T) (jst (some (.int (iI (sNear T f (T 0 0))))) (wR G b R T)) := by
  refine Cn_in RX9 [some (.ref (b 0)), some (.int (iI f)), none, none] (by decide +kernel) rfl rfl rfl (Nat.le_of_ble_eq_true rfl) (fun K C hQ => ?_)
  have hBB := hI.b
  have hLL := hI.L
  have hDD := hI.D
  refine r_bipush (pc := 0) C dX9_nearestOther_0 (by decide) ?_
  refine r_istore_n (pc := 2) C 2 dX9_nearestOther_2 rfl (Nat.le_of_ble_eq_true rfl) ?_
  refine r_iconst (pc := 3) C dX9_nearestOther_3 ?_
  refine r_istore_n (pc := 4) C 3 dX9_nearestOther_4 rfl (Nat.le_of_ble_eq_true rfl) ?_
  have L5 : ∀ (n : Nat) (i : Int), 0 ≤ i → i ≤ T 0 0 → T 0 0 < i + n → Wc K G 5 [some (.ref (b 0)), some (.int (iI f)), some (.int (iI (sNear T f i))), some (.int (iI i))] [] (wR G b R T) := by
    intro n
    induction n with
    | zero =>
      intro i h0 h1 hn; omega
    | succ n ih =>
      intro i h0 h1 hn 
      have hN := sNear_r T f h0 (by omega)
      refine r_iload_n (pc := 5) C 3 dX9_nearestOther_5 rfl rfl ?_
      refine r_aload_n (pc := 6) C 0 dX9_nearestOther_6 rfl rfl ?_
      refine r_get (pc := 7) C 0 0 1 dX9_nearestOther_7 in_X9 rfl rfl (ci := 9) rfl (by decide) tw_742 rfl rfl ?_
      refine r_iconst (pc := 10) C dX9_nearestOther_10 ?_
      refine r_ialoadE (pc := 11) C 2 0 dX9_nearestOther_11 rfl rfl (by decide) (by omega) (flat_0 _ (by decide)) ?_
      refine r_icmp_ge (pc := 12) (tgt := 49) C dX9_nearestOther_12 (by decide) (by first | omega | exact zand_rng _ _ | exact zor_rng _ _ | exact zxor_rng _ _ | exact BT.r (IT.b (by assumption)) _ _) (by first | omega | exact zand_rng _ _ | exact zor_rng _ _ | exact zxor_rng _ _ | exact BT.r (IT.b (by assumption)) _ _) (fun c12 => ?_) (fun c12 => ?_)
      · refine r_iload_n (pc := 49) C 2 dX9_nearestOther_49 rfl rfl ?_
        exact r_iret (pc := 50) C hQ dX9_nearestOther_50 rfl (jst_ri (by rw [show T 0 0 = i by omega]) rfl)
      · refine r_iload_n (pc := 15) C 3 dX9_nearestOther_15 rfl rfl ?_
        refine r_iload_n (pc := 16) C 1 dX9_nearestOther_16 rfl rfl ?_
        refine r_icmp_eq (pc := 17) (tgt := 43) C dX9_nearestOther_17 (by decide) (by first | omega | exact zand_rng _ _ | exact zor_rng _ _ | exact zxor_rng _ _ | exact BT.r (IT.b (by assumption)) _ _) (by first | omega | exact zand_rng _ _ | exact zor_rng _ _ | exact zxor_rng _ _ | exact BT.r (IT.b (by assumption)) _ _) (fun c17 => ?_) (fun c17 => ?_)
        · refine r_iinc (pc := 43) C dX9_nearestOther_43 rfl ?_
          refine r_goto (pc := 46) (tgt := 5) C dX9_nearestOther_46 (by decide) ?_
          refine Wc.to (ih (i + 1) (by omega) (by omega) (by omega) ) rfl (lsub_s (by first | rfl | (rw [sNear_s T f h0]; first | rw [if_pos (by omega)] | rw [if_neg (by omega)])) (lsub_s (by first | rfl | (rw [sNear_s T f h0]; first | rw [if_pos (by omega)] | rw [if_neg (by omega)])) (lsub_s (by first | rfl | (rw [sNear_s T f h0]; first | rw [if_pos (by omega)] | rw [if_neg (by omega)])) (lsub_s (by first | rfl | (rw [sNear_s T f h0]; first | rw [if_pos (by omega)] | rw [if_neg (by omega)])) lsub_0)))) (by rfl)
        · refine r_iload_n (pc := 20) C 2 dX9_nearestOther_20 rfl rfl ?_
          refine r_bipush (pc := 21) C dX9_nearestOther_21 (by decide) ?_
          refine r_icmp_eq (pc := 23) (tgt := 41) C dX9_nearestOther_23 (by decide) (by first | omega | exact zand_rng _ _ | exact zor_rng _ _ | exact zxor_rng _ _ | exact BT.r (IT.b (by assumption)) _ _) (by first | omega | exact zand_rng _ _ | exact zor_rng _ _ | exact zxor_rng _ _ | exact BT.r (IT.b (by assumption)) _ _) (fun c23 => ?_) (fun c23 => ?_)
          · refine r_iload_n (pc := 41) C 3 dX9_nearestOther_41 rfl rfl ?_
            refine r_istore_n (pc := 42) C 2 dX9_nearestOther_42 rfl (Nat.le_of_ble_eq_true rfl) ?_
            refine r_iinc (pc := 43) C dX9_nearestOther_43 rfl ?_
            refine r_goto (pc := 46) (tgt := 5) C dX9_nearestOther_46 (by decide) ?_
            refine Wc.to (ih (i + 1) (by omega) (by omega) (by omega) ) rfl (lsub_s (by first | rfl | (rw [sNear_s T f h0]; first | rw [if_pos (by omega)] | rw [if_neg (by omega)])) (lsub_s (by first | rfl | (rw [sNear_s T f h0]; first | rw [if_pos (by omega)] | rw [if_neg (by omega)])) (lsub_s (by first | rfl | (rw [sNear_s T f h0]; first | rw [if_pos (by omega)] | rw [if_neg (by omega)])) (lsub_s (by first | rfl | (rw [sNear_s T f h0]; first | rw [if_pos (by omega)] | rw [if_neg (by omega)])) lsub_0)))) (by rfl)
          · refine r_aload_n (pc := 26) C 0 dX9_nearestOther_26 rfl rfl ?_
            refine r_iload_n (pc := 27) C 1 dX9_nearestOther_27 rfl rfl ?_
            refine r_iload_n (pc := 28) C 3 dX9_nearestOther_28 rfl rfl ?_
            refine r_callV (pc := 29) (is := [0, 1, 2, 3, 4, 5, 6, 7, 8]) C YX9_wayOf dX9_nearestOther_29 tw_870 (c_X9_wayOf l G _ _ _ _ _ (by first | assumption | omega | exact zand_rng _ _ | exact zor_rng _ _ | exact zxor_rng _ _ | exact BT.r (IT.b (by assumption)) _ _) (by first | assumption | omega | exact zand_rng _ _ | exact zor_rng _ _ | exact zxor_rng _ _ | exact BT.r (IT.b (by assumption)) _ _) (by first | assumption | omega | exact zand_rng _ _ | exact zor_rng _ _ | exact zxor_rng _ _ | exact BT.r (IT.b (by assumption)) _ _)) 0 0 rfl rfl (ci := 9) rfl rfl rfl (by decide) rfl rfl (Nat.le_of_ble_eq_true rfl) ⟨rfl, rfl, by decide, by decide⟩ (jst_i (R_uall ..) ?_)
            have hw1 := sWay_r hI (a := f) (b := i) (by omega) (by omega)
            refine r_aload_n (pc := 32) C 0 dX9_nearestOther_32 rfl rfl ?_
            refine r_iload_n (pc := 33) C 1 dX9_nearestOther_33 rfl rfl ?_
            refine r_iload_n (pc := 34) C 2 dX9_nearestOther_34 rfl rfl ?_
            refine r_callV (pc := 35) (is := [0, 1, 2, 3, 4, 5, 6, 7, 8]) C YX9_wayOf dX9_nearestOther_35 tw_870 (c_X9_wayOf l G _ _ _ _ _ (by first | assumption | omega | exact zand_rng _ _ | exact zor_rng _ _ | exact zxor_rng _ _ | exact BT.r (IT.b (by assumption)) _ _) (by first | assumption | omega | exact zand_rng _ _ | exact zor_rng _ _ | exact zxor_rng _ _ | exact BT.r (IT.b (by assumption)) _ _) (by first | assumption | omega | exact zand_rng _ _ | exact zor_rng _ _ | exact zxor_rng _ _ | exact BT.r (IT.b (by assumption)) _ _)) 0 0 rfl rfl (ci := 9) rfl rfl rfl (by decide) rfl rfl (Nat.le_of_ble_eq_true rfl) ⟨rfl, rfl, by decide, by decide⟩ (jst_i (R_uall ..) ?_)
            have hw2 := sWay_r hI (a := f) (b := sNear T f i) (by omega) (by omega)
            refine r_icmp_ge (pc := 38) (tgt := 43) C dX9_nearestOther_38 (by decide) (by first | omega | exact zand_rng _ _ | exact zor_rng _ _ | exact zxor_rng _ _ | exact BT.r (IT.b (by assumption)) _ _) (by first | omega | exact zand_rng _ _ | exact zor_rng _ _ | exact zxor_rng _ _ | exact BT.r (IT.b (by assumption)) _ _) (fun c38 => ?_) (fun c38 => ?_)
            · refine r_iinc (pc := 43) C dX9_nearestOther_43 rfl ?_
              refine r_goto (pc := 46) (tgt := 5) C dX9_nearestOther_46 (by decide) ?_
              refine Wc.to (ih (i + 1) (by omega) (by omega) (by omega) ) rfl (lsub_s (by first | rfl | (rw [sNear_s T f h0]; first | rw [if_pos (by omega)] | rw [if_neg (by omega)])) (lsub_s (by first | rfl | (rw [sNear_s T f h0]; first | rw [if_pos (by omega)] | rw [if_neg (by omega)])) (lsub_s (by first | rfl | (rw [sNear_s T f h0]; first | rw [if_pos (by omega)] | rw [if_neg (by omega)])) (lsub_s (by first | rfl | (rw [sNear_s T f h0]; first | rw [if_pos (by omega)] | rw [if_neg (by omega)])) lsub_0)))) (by rfl)
            · refine r_iload_n (pc := 41) C 3 dX9_nearestOther_41 rfl rfl ?_
              refine r_istore_n (pc := 42) C 2 dX9_nearestOther_42 rfl (Nat.le_of_ble_eq_true rfl) ?_
              refine r_iinc (pc := 43) C dX9_nearestOther_43 rfl ?_
              refine r_goto (pc := 46) (tgt := 5) C dX9_nearestOther_46 (by decide) ?_
              refine Wc.to (ih (i + 1) (by omega) (by omega) (by omega) ) rfl (lsub_s (by first | rfl | (rw [sNear_s T f h0]; first | rw [if_pos (by omega)] | rw [if_neg (by omega)])) (lsub_s (by first | rfl | (rw [sNear_s T f h0]; first | rw [if_pos (by omega)] | rw [if_neg (by omega)])) (lsub_s (by first | rfl | (rw [sNear_s T f h0]; first | rw [if_pos (by omega)] | rw [if_neg (by omega)])) (lsub_s (by first | rfl | (rw [sNear_s T f h0]; first | rw [if_pos (by omega)] | rw [if_neg (by omega)])) lsub_0)))) (by rfl)
  refine Wc.to (L5 ((T 0 0 - (0)).toNat + 1) (0) (by omega) (by omega) (by omega) ) rfl (lsub_s rfl (lsub_s rfl (lsub_s rfl (lsub_s rfl lsub_0)))) (by rfl)

set_option maxRecDepth 100000 in
set_option maxHeartbeats 4000000 in
theorem c_X9_flies (l : Launch) (G : GT) (b : Nat → Nat) (R T : Tn) (d : Int) (hI : IT T) (hd : 0 ≤ d ∧ d < T 0 1) : Cn l yX9_flies cX9_flies 5 (Option.some .int) ({ frames := 3, cells := 0, slots := 0, locals := 65 }) G [.ref (b 0), .int (iI d)] (wR G b R T) (jst (some (.int (iI (sFly T d)))) (wR G b R T)) := by
  refine Cn_in RX9 [some (.ref (b 0)), some (.int (iI d)), none, none, none] (by decide +kernel) rfl rfl rfl (Nat.le_of_ble_eq_true rfl) (fun K C hQ => ?_)
  have hBB := hI.b
  have hLL := hI.L
  have hDD := hI.D
  have hdd := hI.d hd.1 hd.2
  refine r_aload_n (pc := 0) C 0 dX9_flies_0 rfl rfl ?_
  refine r_iload_n (pc := 1) C 1 dX9_flies_1 rfl rfl ?_
  refine r_callV (pc := 2) (is := [0, 1, 2, 3, 4, 5, 6, 7, 8]) C YX9_isLost dX9_flies_2 tw_854 (c_X9_isLost l G _ _ _ _ (by first | assumption | omega | exact zand_rng _ _ | exact zor_rng _ _ | exact zxor_rng _ _ | exact BT.r (IT.b (by assumption)) _ _) (by first | assumption | omega | exact zand_rng _ _ | exact zor_rng _ _ | exact zxor_rng _ _ | exact BT.r (IT.b (by assumption)) _ _)) 0 0 rfl rfl (ci := 9) rfl rfl rfl (by decide) rfl rfl (Nat.le_of_ble_eq_true rfl) ⟨rfl, rfl, by decide, by decide⟩ (jst_i (R_uall ..) ?_)
  refine r_ifb_eq (pc := 5) (tgt := 11) C dX9_flies_5 (by decide) (fun c5 => ?_) (fun c5 => ?_)
  · refine r_aload_n (pc := 11) C 0 dX9_flies_11 rfl rfl ?_
    refine r_iload_n (pc := 12) C 1 dX9_flies_12 rfl rfl ?_
    refine r_iconst (pc := 13) C dX9_flies_13 ?_
    refine r_callV (pc := 14) (is := [0, 1, 2, 3, 4, 5, 6, 7, 8]) C YX9_get dX9_flies_14 tw_842 (c_X9_get1 l G _ _ _ _ (by first | assumption | omega | exact zand_rng _ _ | exact zor_rng _ _ | exact zxor_rng _ _ | exact BT.r (IT.b (by assumption)) _ _)) 0 0 rfl rfl (ci := 9) rfl rfl rfl (by decide) rfl rfl (Nat.le_of_ble_eq_true rfl) ⟨rfl, rfl, by decide, by decide⟩ (jst_i (R_uall ..) ?_)
    refine r_istore_n (pc := 17) C 2 dX9_flies_17 rfl (Nat.le_of_ble_eq_true rfl) ?_
    refine r_aload_n (pc := 18) C 0 dX9_flies_18 rfl rfl ?_
    refine r_aload_n (pc := 19) C 0 dX9_flies_19 rfl rfl ?_
    refine r_iload_n (pc := 20) C 1 dX9_flies_20 rfl rfl ?_
    refine r_iconst (pc := 21) C dX9_flies_21 ?_
    refine r_callV (pc := 22) (is := [0, 1, 2, 3, 4, 5, 6, 7, 8]) C YX9_get dX9_flies_22 tw_842 (c_X9_get3 l G _ _ _ _ (by first | assumption | omega | exact zand_rng _ _ | exact zor_rng _ _ | exact zxor_rng _ _ | exact BT.r (IT.b (by assumption)) _ _)) 0 0 rfl rfl (ci := 9) rfl rfl rfl (by decide) rfl rfl (Nat.le_of_ble_eq_true rfl) ⟨rfl, rfl, by decide, by decide⟩ (jst_i (R_uall ..) ?_)
    refine r_iload_n (pc := 25) C 2 dX9_flies_25 rfl rfl ?_
    refine r_callV (pc := 26) (is := [0, 1, 2, 3, 4, 5, 6, 7, 8]) C YX9_wayOf dX9_flies_26 tw_870 (c_X9_wayOf l G _ _ _ _ _ (by first | assumption | omega | exact zand_rng _ _ | exact zor_rng _ _ | exact zxor_rng _ _ | exact BT.r (IT.b (by assumption)) _ _) (by first | assumption | omega | exact zand_rng _ _ | exact zor_rng _ _ | exact zxor_rng _ _ | exact BT.r (IT.b (by assumption)) _ _) (by first | assumption | omega | exact zand_rng _ _ | exact zor_rng _ _ | exact zxor_rng _ _ | exact BT.r (IT.b (by assumption)) _ _)) 0 0 rfl rfl (ci := 9) rfl rfl rfl (by decide) rfl rfl (Nat.le_of_ble_eq_true rfl) ⟨rfl, rfl, by decide, by decide⟩ (jst_i (R_uall ..) ?_)
    have hw1 := sWay_r hI (a := T 6 d) (b := T 4 d) (by omega) (by omega)
    refine r_istore_n (pc := 29) C 3 dX9_flies_29 rfl (Nat.le_of_ble_eq_true rfl) ?_
    refine r_iload_n (pc := 30) C 3 dX9_flies_30 rfl rfl ?_
    refine r_iconst (pc := 31) C dX9_flies_31 ?_
    refine r_aload_n (pc := 32) C 0 dX9_flies_32 rfl rfl ?_
    refine r_iload_n (pc := 33) C 1 dX9_flies_33 rfl rfl ?_
    refine r_iconst (pc := 34) C dX9_flies_34 ?_
    refine r_callV (pc := 35) (is := [0, 1, 2, 3, 4, 5, 6, 7, 8]) C YX9_get dX9_flies_35 tw_842 (c_X9_get2 l G _ _ _ _ (by first | assumption | omega | exact zand_rng _ _ | exact zor_rng _ _ | exact zxor_rng _ _ | exact BT.r (IT.b (by assumption)) _ _)) 0 0 rfl rfl (ci := 9) rfl rfl rfl (by decide) rfl rfl (Nat.le_of_ble_eq_true rfl) ⟨rfl, rfl, by decide, by decide⟩ (jst_i (R_uall ..) ?_)
    refine r_imul (pc := 38) C dX9_flies_38 ?_
    refine r_icmp_gt (pc := 39) (tgt := 46) C dX9_flies_39 (by decide) (by first | omega | exact zand_rng _ _ | exact zor_rng _ _ | exact zxor_rng _ _ | exact BT.r (IT.b (by assumption)) _ _) (by first | omega | exact zand_rng _ _ | exact zor_rng _ _ | exact zxor_rng _ _ | exact BT.r (IT.b (by assumption)) _ _) (fun c39 => ?_) (fun c39 => ?_)
    · refine r_iconst (pc := 46) C dX9_flies_46 ?_
      refine r_istore (pc := 47) C dX9_flies_47 (Nat.le_of_ble_eq_true rfl) ?_
      refine r_aload_n (pc := 49) C 0 dX9_flies_49 rfl rfl ?_
      refine r_iload_n (pc := 50) C 1 dX9_flies_50 rfl rfl ?_
      refine r_iconst (pc := 51) C dX9_flies_51 ?_
      refine r_callV (pc := 52) (is := [0, 1, 2, 3, 4, 5, 6, 7, 8]) C YX9_get dX9_flies_52 tw_842 (c_X9_get0 l G _ _ _ _ (by first | assumption | omega | exact zand_rng _ _ | exact zor_rng _ _ | exact zxor_rng _ _ | exact BT.r (IT.b (by assumption)) _ _)) 0 0 rfl rfl (ci := 9) rfl rfl rfl (by decide) rfl rfl (Nat.le_of_ble_eq_true rfl) ⟨rfl, rfl, by decide, by decide⟩ (jst_i (R_uall ..) ?_)
      by_cases s55_1 : T 3 d = 1
      · refine r_tblIn (pc := 55) (tgt := 88) C 1 dX9_flies_55 s55_1 (by decide) (by decide) (by decide) rfl (by decide) ?_
        refine r_aload_n (pc := 88) C 0 dX9_flies_88 rfl rfl ?_
        refine r_iload_n (pc := 89) C 1 dX9_flies_89 rfl rfl ?_
        refine r_iconst (pc := 90) C dX9_flies_90 ?_
        refine r_callV (pc := 91) (is := [0, 1, 2, 3, 4, 5, 6, 7, 8]) C YX9_get dX9_flies_91 tw_842 (c_X9_get2 l G _ _ _ _ (by first | assumption | omega | exact zand_rng _ _ | exact zor_rng _ _ | exact zxor_rng _ _ | exact BT.r (IT.b (by assumption)) _ _)) 0 0 rfl rfl (ci := 9) rfl rfl rfl (by decide) rfl rfl (Nat.le_of_ble_eq_true rfl) ⟨rfl, rfl, by decide, by decide⟩ (jst_i (R_uall ..) ?_)
        refine r_iconst (pc := 94) C dX9_flies_94 ?_
        refine r_icmp_lt (pc := 95) (tgt := 103) C dX9_flies_95 (by decide) (by first | omega | exact zand_rng _ _ | exact zor_rng _ _ | exact zxor_rng _ _ | exact BT.r (IT.b (by assumption)) _ _) (by first | omega | exact zand_rng _ _ | exact zor_rng _ _ | exact zxor_rng _ _ | exact BT.r (IT.b (by assumption)) _ _) (fun c95 => ?_) (fun c95 => ?_)
        · refine r_iload_n (pc := 103) C 2 dX9_flies_103 rfl rfl ?_
          exact r_iret (pc := 104) C hQ dX9_flies_104 rfl (jst_ri (by unfold sFly sAim; repeat (first | rw [if_pos (by omega)] | rw [if_neg (by omega)])) rfl)
        · refine r_bipush (pc := 98) C dX9_flies_98 (by decide) ?_
          refine r_goto (pc := 100) (tgt := 104) C dX9_flies_100 (by decide) ?_
          exact r_iret (pc := 104) C hQ dX9_flies_104 rfl (jst_ri (by unfold sFly sAim; repeat (first | rw [if_pos (by omega)] | rw [if_neg (by omega)])) rfl)
      by_cases s55_2 : T 3 d = 2
      · refine r_tblIn (pc := 55) (tgt := 105) C 2 dX9_flies_55 s55_2 (by decide) (by decide) (by decide) rfl (by decide) ?_
        refine r_iload (pc := 105) C dX9_flies_105 rfl ?_
        refine r_if_eq (pc := 107) (tgt := 114) C dX9_flies_107 (by decide) (by first | omega | exact zand_rng _ _ | exact zor_rng _ _ | exact zxor_rng _ _ | exact BT.r (IT.b (by assumption)) _ _) (fun c107 => ?_) (fun c107 => absurd c107 (by omega))
        refine r_bipush (pc := 114) C dX9_flies_114 (by decide) ?_
        exact r_iret (pc := 116) C hQ dX9_flies_116 rfl (jst_ri (by unfold sFly sAim; repeat (first | rw [if_pos (by omega)] | rw [if_neg (by omega)])) rfl)
      by_cases s55_3 : T 3 d = 3
      · refine r_tblIn (pc := 55) (tgt := 117) C 3 dX9_flies_55 s55_3 (by decide) (by decide) (by decide) rfl (by decide) ?_
        refine r_aload_n (pc := 117) C 0 dX9_flies_117 rfl rfl ?_
        refine r_aload_n (pc := 118) C 0 dX9_flies_118 rfl rfl ?_
        refine r_iload_n (pc := 119) C 1 dX9_flies_119 rfl rfl ?_
        refine r_iconst (pc := 120) C dX9_flies_120 ?_
        refine r_callV (pc := 121) (is := [0, 1, 2, 3, 4, 5, 6, 7, 8]) C YX9_get dX9_flies_121 tw_842 (c_X9_get3 l G _ _ _ _ (by first | assumption | omega | exact zand_rng _ _ | exact zor_rng _ _ | exact zxor_rng _ _ | exact BT.r (IT.b (by assumption)) _ _)) 0 0 rfl rfl (ci := 9) rfl rfl rfl (by decide) rfl rfl (Nat.le_of_ble_eq_true rfl) ⟨rfl, rfl, by decide, by decide⟩ (jst_i (R_uall ..) ?_)
        refine r_callV (pc := 124) (is := [0, 1, 2, 3, 4, 5, 6, 7, 8]) C YX9_nearestOther dX9_flies_124 tw_877 (c_X9_nearestOther l G _ _ _ _ (by first | assumption | omega | exact zand_rng _ _ | exact zor_rng _ _ | exact zxor_rng _ _ | exact BT.r (IT.b (by assumption)) _ _) (by first | assumption | omega | exact zand_rng _ _ | exact zor_rng _ _ | exact zxor_rng _ _ | exact BT.r (IT.b (by assumption)) _ _)) 0 0 rfl rfl (ci := 9) rfl rfl rfl (by decide) rfl rfl (Nat.le_of_ble_eq_true rfl) ⟨rfl, rfl, by decide, by decide⟩ (jst_i (R_uall ..) ?_)
        exact r_iret (pc := 127) C hQ dX9_flies_127 rfl (jst_ri (by unfold sFly sAim; repeat (first | rw [if_pos (by omega)] | rw [if_neg (by omega)])) rfl)
      by_cases s55_4 : T 3 d = 4
      · refine r_tblIn (pc := 55) (tgt := 145) C 4 dX9_flies_55 s55_4 (by decide) (by decide) (by decide) rfl (by decide) ?_
        refine r_iload_n (pc := 145) C 2 dX9_flies_145 rfl rfl ?_
        exact r_iret (pc := 146) C hQ dX9_flies_146 rfl (jst_ri (by unfold sFly sAim; repeat (first | rw [if_pos (by omega)] | rw [if_neg (by omega)])) rfl)
      by_cases s55_5 : T 3 d = 5
      · refine r_tblIn (pc := 55) (tgt := 128) C 5 dX9_flies_55 s55_5 (by decide) (by decide) (by decide) rfl (by decide) ?_
        refine r_iload (pc := 128) C dX9_flies_128 rfl ?_
        refine r_if_eq (pc := 130) (tgt := 142) C dX9_flies_130 (by decide) (by first | omega | exact zand_rng _ _ | exact zor_rng _ _ | exact zxor_rng _ _ | exact BT.r (IT.b (by assumption)) _ _) (fun c130 => ?_) (fun c130 => absurd c130 (by omega))
        refine r_bipush (pc := 142) C dX9_flies_142 (by decide) ?_
        exact r_iret (pc := 144) C hQ dX9_flies_144 rfl (jst_ri (by unfold sFly sAim; repeat (first | rw [if_pos (by omega)] | rw [if_neg (by omega)])) rfl)
      refine r_tblOut (pc := 55) (tgt := 145) C dX9_flies_55 (by first | omega | exact zand_rng _ _ | exact zor_rng _ _ | exact zxor_rng _ _ | exact BT.r (IT.b (by assumption)) _ _) (by omega) (by decide) ?_
      refine r_iload_n (pc := 145) C 2 dX9_flies_145 rfl rfl ?_
      exact r_iret (pc := 146) C hQ dX9_flies_146 rfl (jst_ri (by unfold sFly sAim; repeat (first | rw [if_pos (by omega)] | rw [if_neg (by omega)])) rfl)
    · refine r_iconst (pc := 42) C dX9_flies_42 ?_
      refine r_goto (pc := 43) (tgt := 47) C dX9_flies_43 (by decide) ?_
      refine r_istore (pc := 47) C dX9_flies_47 (Nat.le_of_ble_eq_true rfl) ?_
      refine r_aload_n (pc := 49) C 0 dX9_flies_49 rfl rfl ?_
      refine r_iload_n (pc := 50) C 1 dX9_flies_50 rfl rfl ?_
      refine r_iconst (pc := 51) C dX9_flies_51 ?_
      refine r_callV (pc := 52) (is := [0, 1, 2, 3, 4, 5, 6, 7, 8]) C YX9_get dX9_flies_52 tw_842 (c_X9_get0 l G _ _ _ _ (by first | assumption | omega | exact zand_rng _ _ | exact zor_rng _ _ | exact zxor_rng _ _ | exact BT.r (IT.b (by assumption)) _ _)) 0 0 rfl rfl (ci := 9) rfl rfl rfl (by decide) rfl rfl (Nat.le_of_ble_eq_true rfl) ⟨rfl, rfl, by decide, by decide⟩ (jst_i (R_uall ..) ?_)
      by_cases s55_1 : T 3 d = 1
      · refine r_tblIn (pc := 55) (tgt := 88) C 1 dX9_flies_55 s55_1 (by decide) (by decide) (by decide) rfl (by decide) ?_
        refine r_aload_n (pc := 88) C 0 dX9_flies_88 rfl rfl ?_
        refine r_iload_n (pc := 89) C 1 dX9_flies_89 rfl rfl ?_
        refine r_iconst (pc := 90) C dX9_flies_90 ?_
        refine r_callV (pc := 91) (is := [0, 1, 2, 3, 4, 5, 6, 7, 8]) C YX9_get dX9_flies_91 tw_842 (c_X9_get2 l G _ _ _ _ (by first | assumption | omega | exact zand_rng _ _ | exact zor_rng _ _ | exact zxor_rng _ _ | exact BT.r (IT.b (by assumption)) _ _)) 0 0 rfl rfl (ci := 9) rfl rfl rfl (by decide) rfl rfl (Nat.le_of_ble_eq_true rfl) ⟨rfl, rfl, by decide, by decide⟩ (jst_i (R_uall ..) ?_)
        refine r_iconst (pc := 94) C dX9_flies_94 ?_
        refine r_icmp_lt (pc := 95) (tgt := 103) C dX9_flies_95 (by decide) (by first | omega | exact zand_rng _ _ | exact zor_rng _ _ | exact zxor_rng _ _ | exact BT.r (IT.b (by assumption)) _ _) (by first | omega | exact zand_rng _ _ | exact zor_rng _ _ | exact zxor_rng _ _ | exact BT.r (IT.b (by assumption)) _ _) (fun c95 => ?_) (fun c95 => ?_)
        · refine r_iload_n (pc := 103) C 2 dX9_flies_103 rfl rfl ?_
          exact r_iret (pc := 104) C hQ dX9_flies_104 rfl (jst_ri (by unfold sFly sAim; repeat (first | rw [if_pos (by omega)] | rw [if_neg (by omega)])) rfl)
        · refine r_bipush (pc := 98) C dX9_flies_98 (by decide) ?_
          refine r_goto (pc := 100) (tgt := 104) C dX9_flies_100 (by decide) ?_
          exact r_iret (pc := 104) C hQ dX9_flies_104 rfl (jst_ri (by unfold sFly sAim; repeat (first | rw [if_pos (by omega)] | rw [if_neg (by omega)])) rfl)
      by_cases s55_2 : T 3 d = 2
      · refine r_tblIn (pc := 55) (tgt := 105) C 2 dX9_flies_55 s55_2 (by decide) (by decide) (by decide) rfl (by decide) ?_
        refine r_iload (pc := 105) C dX9_flies_105 rfl ?_
        refine r_if_eq (pc := 107) (tgt := 114) C dX9_flies_107 (by decide) (by first | omega | exact zand_rng _ _ | exact zor_rng _ _ | exact zxor_rng _ _ | exact BT.r (IT.b (by assumption)) _ _) (fun c107 => absurd c107 (by omega)) (fun c107 => ?_)
        refine r_iload_n (pc := 110) C 2 dX9_flies_110 rfl rfl ?_
        refine r_goto (pc := 111) (tgt := 116) C dX9_flies_111 (by decide) ?_
        exact r_iret (pc := 116) C hQ dX9_flies_116 rfl (jst_ri (by unfold sFly sAim; repeat (first | rw [if_pos (by omega)] | rw [if_neg (by omega)])) rfl)
      by_cases s55_3 : T 3 d = 3
      · refine r_tblIn (pc := 55) (tgt := 117) C 3 dX9_flies_55 s55_3 (by decide) (by decide) (by decide) rfl (by decide) ?_
        refine r_aload_n (pc := 117) C 0 dX9_flies_117 rfl rfl ?_
        refine r_aload_n (pc := 118) C 0 dX9_flies_118 rfl rfl ?_
        refine r_iload_n (pc := 119) C 1 dX9_flies_119 rfl rfl ?_
        refine r_iconst (pc := 120) C dX9_flies_120 ?_
        refine r_callV (pc := 121) (is := [0, 1, 2, 3, 4, 5, 6, 7, 8]) C YX9_get dX9_flies_121 tw_842 (c_X9_get3 l G _ _ _ _ (by first | assumption | omega | exact zand_rng _ _ | exact zor_rng _ _ | exact zxor_rng _ _ | exact BT.r (IT.b (by assumption)) _ _)) 0 0 rfl rfl (ci := 9) rfl rfl rfl (by decide) rfl rfl (Nat.le_of_ble_eq_true rfl) ⟨rfl, rfl, by decide, by decide⟩ (jst_i (R_uall ..) ?_)
        refine r_callV (pc := 124) (is := [0, 1, 2, 3, 4, 5, 6, 7, 8]) C YX9_nearestOther dX9_flies_124 tw_877 (c_X9_nearestOther l G _ _ _ _ (by first | assumption | omega | exact zand_rng _ _ | exact zor_rng _ _ | exact zxor_rng _ _ | exact BT.r (IT.b (by assumption)) _ _) (by first | assumption | omega | exact zand_rng _ _ | exact zor_rng _ _ | exact zxor_rng _ _ | exact BT.r (IT.b (by assumption)) _ _)) 0 0 rfl rfl (ci := 9) rfl rfl rfl (by decide) rfl rfl (Nat.le_of_ble_eq_true rfl) ⟨rfl, rfl, by decide, by decide⟩ (jst_i (R_uall ..) ?_)
        exact r_iret (pc := 127) C hQ dX9_flies_127 rfl (jst_ri (by unfold sFly sAim; repeat (first | rw [if_pos (by omega)] | rw [if_neg (by omega)])) rfl)
      by_cases s55_4 : T 3 d = 4
      · refine r_tblIn (pc := 55) (tgt := 145) C 4 dX9_flies_55 s55_4 (by decide) (by decide) (by decide) rfl (by decide) ?_
        refine r_iload_n (pc := 145) C 2 dX9_flies_145 rfl rfl ?_
        exact r_iret (pc := 146) C hQ dX9_flies_146 rfl (jst_ri (by unfold sFly sAim; repeat (first | rw [if_pos (by omega)] | rw [if_neg (by omega)])) rfl)
      by_cases s55_5 : T 3 d = 5
      · refine r_tblIn (pc := 55) (tgt := 128) C 5 dX9_flies_55 s55_5 (by decide) (by decide) (by decide) rfl (by decide) ?_
        refine r_iload (pc := 128) C dX9_flies_128 rfl ?_
        refine r_if_eq (pc := 130) (tgt := 142) C dX9_flies_130 (by decide) (by first | omega | exact zand_rng _ _ | exact zor_rng _ _ | exact zxor_rng _ _ | exact BT.r (IT.b (by assumption)) _ _) (fun c130 => absurd c130 (by omega)) (fun c130 => ?_)
        refine r_iload_n (pc := 133) C 3 dX9_flies_133 rfl rfl ?_
        refine r_iconst (pc := 134) C dX9_flies_134 ?_
        refine r_icmp_lt (pc := 135) (tgt := 142) C dX9_flies_135 (by decide) (by first | omega | exact zand_rng _ _ | exact zor_rng _ _ | exact zxor_rng _ _ | exact BT.r (IT.b (by assumption)) _ _) (by first | omega | exact zand_rng _ _ | exact zor_rng _ _ | exact zxor_rng _ _ | exact BT.r (IT.b (by assumption)) _ _) (fun c135 => ?_) (fun c135 => ?_)
        · refine r_bipush (pc := 142) C dX9_flies_142 (by decide) ?_
          exact r_iret (pc := 144) C hQ dX9_flies_144 rfl (jst_ri (by unfold sFly sAim; repeat (first | rw [if_pos (by omega)] | rw [if_neg (by omega)])) rfl)
        · refine r_iload_n (pc := 138) C 2 dX9_flies_138 rfl rfl ?_
          refine r_goto (pc := 139) (tgt := 144) C dX9_flies_139 (by decide) ?_
          exact r_iret (pc := 144) C hQ dX9_flies_144 rfl (jst_ri (by unfold sFly sAim; repeat (first | rw [if_pos (by omega)] | rw [if_neg (by omega)])) rfl)
      refine r_tblOut (pc := 55) (tgt := 145) C dX9_flies_55 (by first | omega | exact zand_rng _ _ | exact zor_rng _ _ | exact zxor_rng _ _ | exact BT.r (IT.b (by assumption)) _ _) (by omega) (by decide) ?_
      refine r_iload_n (pc := 145) C 2 dX9_flies_145 rfl rfl ?_
      exact r_iret (pc := 146) C hQ dX9_flies_146 rfl (jst_ri (by unfold sFly sAim; repeat (first | rw [if_pos (by omega)] | rw [if_neg (by omega)])) rfl)
  · refine r_bipush (pc := 8) C dX9_flies_8 (by decide) ?_
    exact r_iret (pc := 10) C hQ dX9_flies_10 rfl (jst_ri (by unfold sFly sAim; repeat (first | rw [if_pos (by omega)] | rw [if_neg (by omega)])) rfl)

set_option maxRecDepth 100000 in
set_option maxHeartbeats 4000000 in
theorem c_X9_valueOf (l : Launch) (G : GT) (b : Nat → Nat) (R T : Tn) (d : Int) (hI : IT T) (hd : 0 ≤ d ∧ d < T 0 1) : Cn l yX9_valueOf cX9_valueOf 2 (Option.some .int) ({ frames := 1, cells := 0, slots := 0, locals := 22 }) G [.ref (b 0), .int (iI d)] (wR G b R T) (jst (some (.int (iI (sVal T d)))) (wR G b R T)) := by
  refine Cn_in RX9 [some (.ref (b 0)), some (.int (iI d))] (by decide +kernel) rfl rfl rfl (Nat.le_of_ble_eq_true rfl) (fun K C hQ => ?_)
  have hBB := hI.b
  have hLL := hI.L
  have hDD := hI.D
  have hdd := hI.d hd.1 hd.2
  refine r_aload_n (pc := 0) C 0 dX9_valueOf_0 rfl rfl ?_
  refine r_iload_n (pc := 1) C 1 dX9_valueOf_1 rfl rfl ?_
  refine r_iconst (pc := 2) C dX9_valueOf_2 ?_
  refine r_callV (pc := 3) (is := [0, 1, 2, 3, 4, 5, 6, 7, 8]) C YX9_get dX9_valueOf_3 tw_842 (c_X9_get0 l G _ _ _ _ (by first | assumption | omega | exact zand_rng _ _ | exact zor_rng _ _ | exact zxor_rng _ _ | exact BT.r (IT.b (by assumption)) _ _)) 0 0 rfl rfl (ci := 9) rfl rfl rfl (by decide) rfl rfl (Nat.le_of_ble_eq_true rfl) ⟨rfl, rfl, by decide, by decide⟩ (jst_i (R_uall ..) ?_)
  by_cases s6_1 : T 3 d = 1
  · refine r_tblIn (pc := 6) (tgt := 40) C 1 dX9_valueOf_6 s6_1 (by decide) (by decide) (by decide) rfl (by decide) ?_
    refine r_aload_n (pc := 40) C 0 dX9_valueOf_40 rfl rfl ?_
    refine r_iload_n (pc := 41) C 1 dX9_valueOf_41 rfl rfl ?_
    refine r_iconst (pc := 42) C dX9_valueOf_42 ?_
    refine r_callV (pc := 43) (is := [0, 1, 2, 3, 4, 5, 6, 7, 8]) C YX9_get dX9_valueOf_43 tw_842 (c_X9_get2 l G _ _ _ _ (by first | assumption | omega | exact zand_rng _ _ | exact zor_rng _ _ | exact zxor_rng _ _ | exact BT.r (IT.b (by assumption)) _ _)) 0 0 rfl rfl (ci := 9) rfl rfl rfl (by decide) rfl rfl (Nat.le_of_ble_eq_true rfl) ⟨rfl, rfl, by decide, by decide⟩ (jst_i (R_uall ..) ?_)
    refine r_iconst (pc := 46) C dX9_valueOf_46 ?_
    refine r_icmp_lt (pc := 47) (tgt := 54) C dX9_valueOf_47 (by decide) (by first | omega | exact zand_rng _ _ | exact zor_rng _ _ | exact zxor_rng _ _ | exact BT.r (IT.b (by assumption)) _ _) (by first | omega | exact zand_rng _ _ | exact zor_rng _ _ | exact zxor_rng _ _ | exact BT.r (IT.b (by assumption)) _ _) (fun c47 => ?_) (fun c47 => ?_)
    · refine r_iconst (pc := 54) C dX9_valueOf_54 ?_
      refine r_aload_n (pc := 55) C 0 dX9_valueOf_55 rfl rfl ?_
      refine r_iload_n (pc := 56) C 1 dX9_valueOf_56 rfl rfl ?_
      refine r_iconst (pc := 57) C dX9_valueOf_57 ?_
      refine r_callV (pc := 58) (is := [0, 1, 2, 3, 4, 5, 6, 7, 8]) C YX9_get dX9_valueOf_58 tw_842 (c_X9_get2 l G _ _ _ _ (by first | assumption | omega | exact zand_rng _ _ | exact zor_rng _ _ | exact zxor_rng _ _ | exact BT.r (IT.b (by assumption)) _ _)) 0 0 rfl rfl (ci := 9) rfl rfl rfl (by decide) rfl rfl (Nat.le_of_ble_eq_true rfl) ⟨rfl, rfl, by decide, by decide⟩ (jst_i (R_uall ..) ?_)
      refine r_isub (pc := 61) C dX9_valueOf_61 ?_
      exact r_iret (pc := 62) C hQ dX9_valueOf_62 rfl (jst_ri (by unfold sVal; repeat (first | rw [if_pos (by omega)] | rw [if_neg (by omega)])) rfl)
    · refine r_iconst (pc := 50) C dX9_valueOf_50 ?_
      refine r_goto (pc := 51) (tgt := 62) C dX9_valueOf_51 (by decide) ?_
      exact r_iret (pc := 62) C hQ dX9_valueOf_62 rfl (jst_ri (by unfold sVal; repeat (first | rw [if_pos (by omega)] | rw [if_neg (by omega)])) rfl)
  by_cases s6_2 : T 3 d = 2
  · refine r_tblIn (pc := 6) (tgt := 63) C 2 dX9_valueOf_6 s6_2 (by decide) (by decide) (by decide) rfl (by decide) ?_
    refine r_iconst (pc := 63) C dX9_valueOf_63 ?_
    exact r_iret (pc := 64) C hQ dX9_valueOf_64 rfl (jst_ri (by unfold sVal; repeat (first | rw [if_pos (by omega)] | rw [if_neg (by omega)])) rfl)
  by_cases s6_3 : T 3 d = 3
  · refine r_tblIn (pc := 6) (tgt := 65) C 3 dX9_valueOf_6 s6_3 (by decide) (by decide) (by decide) rfl (by decide) ?_
    refine r_iconst (pc := 65) C dX9_valueOf_65 ?_
    exact r_iret (pc := 66) C hQ dX9_valueOf_66 rfl (jst_ri (by unfold sVal; repeat (first | rw [if_pos (by omega)] | rw [if_neg (by omega)])) rfl)
  by_cases s6_4 : T 3 d = 4
  · refine r_tblIn (pc := 6) (tgt := 67) C 4 dX9_valueOf_6 s6_4 (by decide) (by decide) (by decide) rfl (by decide) ?_
    refine r_bipush (pc := 67) C dX9_valueOf_67 (by decide) ?_
    exact r_iret (pc := 69) C hQ dX9_valueOf_69 rfl (jst_ri (by unfold sVal; repeat (first | rw [if_pos (by omega)] | rw [if_neg (by omega)])) rfl)
  by_cases s6_5 : T 3 d = 5
  · refine r_tblIn (pc := 6) (tgt := 70) C 5 dX9_valueOf_6 s6_5 (by decide) (by decide) (by decide) rfl (by decide) ?_
    refine r_bipush (pc := 70) C dX9_valueOf_70 (by decide) ?_
    exact r_iret (pc := 72) C hQ dX9_valueOf_72 rfl (jst_ri (by unfold sVal; repeat (first | rw [if_pos (by omega)] | rw [if_neg (by omega)])) rfl)
  refine r_tblOut (pc := 6) (tgt := 73) C dX9_valueOf_6 (by first | omega | exact zand_rng _ _ | exact zor_rng _ _ | exact zxor_rng _ _ | exact BT.r (IT.b (by assumption)) _ _) (by omega) (by decide) ?_
  refine r_iconst (pc := 73) C dX9_valueOf_73 ?_
  exact r_iret (pc := 74) C hQ dX9_valueOf_74 rfl (jst_ri (by unfold sVal; repeat (first | rw [if_pos (by omega)] | rw [if_neg (by omega)])) rfl)

set_option maxRecDepth 100000 in
set_option maxHeartbeats 4000000 in
theorem c_X9_goesHome (l : Launch) (G : GT) (b : Nat → Nat) (R T : Tn) (d w : Int) (hI : IT T) (hd : 0 ≤ d ∧ d < T 0 1) (hw : -2147483648 ≤ w ∧ w < 2147483648) : Cn l yX9_goesHome cX9_goesHome 4 none ({ frames := 4, cells := 0, slots := 0, locals := 89 }) G [.ref (b 0), .int (iI d), .int (iI w)] (wR G b R T) (jst none (wR G b R (sGo T d w))) := by
  refine Cn_in RX9 [some (.ref (b 0)), some (.int (iI d)), some (.int (iI w)), none] (by decide +kernel) rfl rfl rfl (Nat.le_of_ble_eq_true rfl) (fun K C hQ => ?_)
  have hBB := hI.b
  have hLL := hI.L
  have hDD := hI.D
  have hdd := hI.d hd.1 hd.2
  have hff := sFly_r hI hd.1 hd.2
  refine r_aload_n (pc := 0) C 0 dX9_goesHome_0 rfl rfl ?_
  refine r_iload_n (pc := 1) C 1 dX9_goesHome_1 rfl rfl ?_
  refine r_callV (pc := 2) (is := [0, 1, 2, 3, 4, 5, 6, 7, 8]) C YX9_flies dX9_goesHome_2 tw_866 (c_X9_flies l G _ _ _ _ (by first | assumption | omega | exact zand_rng _ _ | exact zor_rng _ _ | exact zxor_rng _ _ | exact BT.r (IT.b (by assumption)) _ _) (by first | assumption | omega | exact zand_rng _ _ | exact zor_rng _ _ | exact zxor_rng _ _ | exact BT.r (IT.b (by assumption)) _ _)) 0 0 rfl rfl (ci := 9) rfl rfl rfl (by decide) rfl rfl (Nat.le_of_ble_eq_true rfl) ⟨rfl, rfl, by decide, by decide⟩ (jst_i (R_uall ..) ?_)
  refine r_istore_n (pc := 5) C 3 dX9_goesHome_5 rfl (Nat.le_of_ble_eq_true rfl) ?_
  refine r_iload_n (pc := 6) C 3 dX9_goesHome_6 rfl rfl ?_
  refine r_bipush (pc := 7) C dX9_goesHome_7 (by decide) ?_
  refine r_icmp_ne (pc := 9) (tgt := 13) C dX9_goesHome_9 (by decide) (by first | omega | exact zand_rng _ _ | exact zor_rng _ _ | exact zxor_rng _ _ | exact BT.r (IT.b (by assumption)) _ _) (by first | omega | exact zand_rng _ _ | exact zor_rng _ _ | exact zxor_rng _ _ | exact BT.r (IT.b (by assumption)) _ _) (fun c9 => ?_) (fun c9 => ?_)
  · have hat : T 6 d ≠ 9 := by
      intro e
      apply c9
      unfold sFly
      rw [if_pos e]
    refine r_aload_n (pc := 13) C 0 dX9_goesHome_13 rfl rfl ?_
    refine r_iload_n (pc := 14) C 1 dX9_goesHome_14 rfl rfl ?_
    refine r_iconst (pc := 15) C dX9_goesHome_15 ?_
    refine r_aload_n (pc := 16) C 0 dX9_goesHome_16 rfl rfl ?_
    refine r_aload_n (pc := 17) C 0 dX9_goesHome_17 rfl rfl ?_
    refine r_iload_n (pc := 18) C 1 dX9_goesHome_18 rfl rfl ?_
    refine r_iconst (pc := 19) C dX9_goesHome_19 ?_
    refine r_callV (pc := 20) (is := [0, 1, 2, 3, 4, 5, 6, 7, 8]) C YX9_get dX9_goesHome_20 tw_842 (c_X9_get3 l G _ _ _ _ (by first | assumption | omega | exact zand_rng _ _ | exact zor_rng _ _ | exact zxor_rng _ _ | exact BT.r (IT.b (by assumption)) _ _)) 0 0 rfl rfl (ci := 9) rfl rfl rfl (by decide) rfl rfl (Nat.le_of_ble_eq_true rfl) ⟨rfl, rfl, by decide, by decide⟩ (jst_i (R_uall ..) ?_)
    refine r_iload_n (pc := 23) C 3 dX9_goesHome_23 rfl rfl ?_
    refine r_callV (pc := 24) (is := [0, 1, 2, 3, 4, 5, 6, 7, 8]) C YX9_wayOf dX9_goesHome_24 tw_870 (c_X9_wayOf l G _ _ _ _ _ (by first | assumption | omega | exact zand_rng _ _ | exact zor_rng _ _ | exact zxor_rng _ _ | exact BT.r (IT.b (by assumption)) _ _) (by first | assumption | omega | exact zand_rng _ _ | exact zor_rng _ _ | exact zxor_rng _ _ | exact BT.r (IT.b (by assumption)) _ _) (by first | assumption | omega | exact zand_rng _ _ | exact zor_rng _ _ | exact zxor_rng _ _ | exact BT.r (IT.b (by assumption)) _ _)) 0 0 rfl rfl (ci := 9) rfl rfl rfl (by decide) rfl rfl (Nat.le_of_ble_eq_true rfl) ⟨rfl, rfl, by decide, by decide⟩ (jst_i (R_uall ..) ?_)
    have hw1 := sWay_r hI (a := T 6 d) (b := sFly T d) (by omega) (by omega)
    refine r_iload_n (pc := 27) C 2 dX9_goesHome_27 rfl rfl ?_
    refine r_icmp_le (pc := 28) (tgt := 36) C dX9_goesHome_28 (by decide) (by first | omega | exact zand_rng _ _ | exact zor_rng _ _ | exact zxor_rng _ _ | exact BT.r (IT.b (by assumption)) _ _) (by first | omega | exact zand_rng _ _ | exact zor_rng _ _ | exact zxor_rng _ _ | exact BT.r (IT.b (by assumption)) _ _) (fun c28 => ?_) (fun c28 => ?_)
    · refine r_iload_n (pc := 36) C 3 dX9_goesHome_36 rfl rfl ?_
      refine r_callV (pc := 37) (is := [0, 1, 2, 3, 4, 5, 6, 7, 8]) C YX9_puts dX9_goesHome_37 tw_893 (c_X9_puts3 l G _ _ _ _ _ (by first | assumption | omega | exact zand_rng _ _ | exact zor_rng _ _ | exact zxor_rng _ _ | exact BT.r (IT.b (by assumption)) _ _)) 0 0 rfl rfl (ci := 9) rfl rfl rfl (by decide) rfl rfl (Nat.le_of_ble_eq_true rfl) ⟨rfl, rfl, by decide, by decide⟩ (jst_v (R_uall ..) ?_)
      exact r_vret (pc := 40) C hQ dX9_goesHome_40 rfl (jst_rv (by unfold sGo; repeat (first | rw [if_pos (by omega)] | rw [if_neg (by omega)])))
    · refine r_bipush (pc := 31) C dX9_goesHome_31 (by decide) ?_
      refine r_goto (pc := 33) (tgt := 37) C dX9_goesHome_33 (by decide) ?_
      refine r_callV (pc := 37) (is := [0, 1, 2, 3, 4, 5, 6, 7, 8]) C YX9_puts dX9_goesHome_37 tw_893 (c_X9_puts3 l G _ _ _ _ _ (by first | assumption | omega | exact zand_rng _ _ | exact zor_rng _ _ | exact zxor_rng _ _ | exact BT.r (IT.b (by assumption)) _ _)) 0 0 rfl rfl (ci := 9) rfl rfl rfl (by decide) rfl rfl (Nat.le_of_ble_eq_true rfl) ⟨rfl, rfl, by decide, by decide⟩ (jst_v (R_uall ..) ?_)
      exact r_vret (pc := 40) C hQ dX9_goesHome_40 rfl (jst_rv (by unfold sGo; repeat (first | rw [if_pos (by omega)] | rw [if_neg (by omega)])))
  · exact r_vret (pc := 12) C hQ dX9_goesHome_12 rfl (jst_rv (by unfold sGo; repeat (first | rw [if_pos (by omega)] | rw [if_neg (by omega)])))

set_option maxRecDepth 100000 in
set_option maxHeartbeats 4000000 in
theorem c_X9_lostMany (l : Launch) (G : GT) (b : Nat → Nat) (R T : Tn) (hI : IT T) : Cn l yX9_lostMany cX9_lostMany 3 (Option.some .int) ({ frames := 2, cells := 0, slots := 0, locals := 43 }) G [.ref (b 0)] (wR G b R T) (jst (some (.int (iI (sLost T (T 0 1))))) (wR G b R T)) := by
  refine Cn_in RX9 [some (.ref (b 0)), none, none] (by decide +kernel) rfl rfl rfl (Nat.le_of_ble_eq_true rfl) (fun K C hQ => ?_)
  have hBB := hI.b
  have hLL := hI.L
  have hDD := hI.D
  refine r_iconst (pc := 0) C dX9_lostMany_0 ?_
  refine r_istore_n (pc := 1) C 1 dX9_lostMany_1 rfl (Nat.le_of_ble_eq_true rfl) ?_
  refine r_iconst (pc := 2) C dX9_lostMany_2 ?_
  refine r_istore_n (pc := 3) C 2 dX9_lostMany_3 rfl (Nat.le_of_ble_eq_true rfl) ?_
  have L4 : ∀ (n : Nat) (i : Int), 0 ≤ i → i ≤ T 0 1 → T 0 1 < i + n → Wc K G 4 [some (.ref (b 0)), some (.int (iI (sLost T i))), some (.int (iI i))] [] (wR G b R T) := by
    intro n
    induction n with
    | zero =>
      intro i h0 h1 hn; omega
    | succ n ih =>
      intro i h0 h1 hn 
      refine r_iload_n (pc := 4) C 2 dX9_lostMany_4 rfl rfl ?_
      refine r_aload_n (pc := 5) C 0 dX9_lostMany_5 rfl rfl ?_
      refine r_get (pc := 6) C 0 0 1 dX9_lostMany_6 in_X9 rfl rfl (ci := 9) rfl (by decide) tw_742 rfl rfl ?_
      refine r_iconst (pc := 9) C dX9_lostMany_9 ?_
      refine r_ialoadE (pc := 10) C 2 0 dX9_lostMany_10 rfl rfl (by decide) (by omega) (flat_0 _ (by decide)) ?_
      refine r_icmp_ge (pc := 11) (tgt := 36) C dX9_lostMany_11 (by decide) (by first | omega | exact zand_rng _ _ | exact zor_rng _ _ | exact zxor_rng _ _ | exact BT.r (IT.b (by assumption)) _ _) (by first | omega | exact zand_rng _ _ | exact zor_rng _ _ | exact zxor_rng _ _ | exact BT.r (IT.b (by assumption)) _ _) (fun c11 => ?_) (fun c11 => ?_)
      · refine r_iload_n (pc := 36) C 1 dX9_lostMany_36 rfl rfl ?_
        exact r_iret (pc := 37) C hQ dX9_lostMany_37 rfl (jst_ri (by rw [show T 0 1 = i by omega]) rfl)
      · refine r_iload_n (pc := 14) C 1 dX9_lostMany_14 rfl rfl ?_
        refine r_aload_n (pc := 15) C 0 dX9_lostMany_15 rfl rfl ?_
        refine r_iload_n (pc := 16) C 2 dX9_lostMany_16 rfl rfl ?_
        refine r_callV (pc := 17) (is := [0, 1, 2, 3, 4, 5, 6, 7, 8]) C YX9_isLost dX9_lostMany_17 tw_854 (c_X9_isLost l G _ _ _ _ (by first | assumption | omega | exact zand_rng _ _ | exact zor_rng _ _ | exact zxor_rng _ _ | exact BT.r (IT.b (by assumption)) _ _) (by first | assumption | omega | exact zand_rng _ _ | exact zor_rng _ _ | exact zxor_rng _ _ | exact BT.r (IT.b (by assumption)) _ _)) 0 0 rfl rfl (ci := 9) rfl rfl rfl (by decide) rfl rfl (Nat.le_of_ble_eq_true rfl) ⟨rfl, rfl, by decide, by decide⟩ (jst_i (R_uall ..) ?_)
        refine r_ifb_eq (pc := 20) (tgt := 27) C dX9_lostMany_20 (by decide) (fun c20 => ?_) (fun c20 => ?_)
        · refine r_iconst (pc := 27) C dX9_lostMany_27 ?_
          refine r_iadd (pc := 28) C dX9_lostMany_28 ?_
          refine r_istore_n (pc := 29) C 1 dX9_lostMany_29 rfl (Nat.le_of_ble_eq_true rfl) ?_
          refine r_iinc (pc := 30) C dX9_lostMany_30 rfl ?_
          refine r_goto (pc := 33) (tgt := 4) C dX9_lostMany_33 (by decide) ?_
          refine Wc.to (ih (i + 1) (by omega) (by omega) (by omega) ) rfl (lsub_s (by first | rfl | (rw [sLost_s _ h0]; first | rw [if_pos (by omega)] | rw [if_neg (by omega)])) (lsub_s (by first | rfl | (rw [sLost_s _ h0]; first | rw [if_pos (by omega)] | rw [if_neg (by omega)])) (lsub_s (by first | rfl | (rw [sLost_s _ h0]; first | rw [if_pos (by omega)] | rw [if_neg (by omega)])) lsub_0))) (by rfl)
        · refine r_iconst (pc := 23) C dX9_lostMany_23 ?_
          refine r_goto (pc := 24) (tgt := 28) C dX9_lostMany_24 (by decide) ?_
          refine r_iadd (pc := 28) C dX9_lostMany_28 ?_
          refine r_istore_n (pc := 29) C 1 dX9_lostMany_29 rfl (Nat.le_of_ble_eq_true rfl) ?_
          refine r_iinc (pc := 30) C dX9_lostMany_30 rfl ?_
          refine r_goto (pc := 33) (tgt := 4) C dX9_lostMany_33 (by decide) ?_
          refine Wc.to (ih (i + 1) (by omega) (by omega) (by omega) ) rfl (lsub_s (by first | rfl | (rw [sLost_s _ h0]; first | rw [if_pos (by omega)] | rw [if_neg (by omega)])) (lsub_s (by first | rfl | (rw [sLost_s _ h0]; first | rw [if_pos (by omega)] | rw [if_neg (by omega)])) (lsub_s (by first | rfl | (rw [sLost_s _ h0]; first | rw [if_pos (by omega)] | rw [if_neg (by omega)])) lsub_0))) (by rfl)
  refine Wc.to (L4 ((T 0 1 - (0)).toNat + 1) (0) (by omega) (by omega) (by omega) ) rfl (lsub_s rfl (lsub_s rfl (lsub_s rfl lsub_0))) (by rfl)

set_option maxRecDepth 100000 in
set_option maxHeartbeats 4000000 in
theorem c_X9_purseOf (l : Launch) (G : GT) (b : Nat → Nat) (R T : Tn) (q : Int) (hI : IT T) (hq : -2147483648 ≤ q ∧ q < 2147483648) : Cn l yX9_purseOf cX9_purseOf 4 (Option.some .int) ({ frames := 2, cells := 0, slots := 0, locals := 43 }) G [.ref (b 0), .int (iI q)] (wR G b R T) (jst (some (.int (iI (sPurse T q (T 0 1))))) (wR G b R T)) := by
  refine Cn_in RX9 [some (.ref (b 0)), some (.int (iI q)), none, none] (by decide +kernel) rfl rfl rfl (Nat.le_of_ble_eq_true rfl) (fun K C hQ => ?_)
  have hBB := hI.b
  have hLL := hI.L
  have hDD := hI.D
  refine r_iconst (pc := 0) C dX9_purseOf_0 ?_
  refine r_istore_n (pc := 1) C 2 dX9_purseOf_1 rfl (Nat.le_of_ble_eq_true rfl) ?_
  refine r_iconst (pc := 2) C dX9_purseOf_2 ?_
  refine r_istore_n (pc := 3) C 3 dX9_purseOf_3 rfl (Nat.le_of_ble_eq_true rfl) ?_
  have L4 : ∀ (n : Nat) (i : Int), 0 ≤ i → i ≤ T 0 1 → T 0 1 < i + n → Wc K G 4 [some (.ref (b 0)), some (.int (iI q)), some (.int (iI (sPurse T q i))), some (.int (iI i))] [] (wR G b R T) := by
    intro n
    induction n with
    | zero =>
      intro i h0 h1 hn; omega
    | succ n ih =>
      intro i h0 h1 hn 
      refine r_iload_n (pc := 4) C 3 dX9_purseOf_4 rfl rfl ?_
      refine r_aload_n (pc := 5) C 0 dX9_purseOf_5 rfl rfl ?_
      refine r_get (pc := 6) C 0 0 1 dX9_purseOf_6 in_X9 rfl rfl (ci := 9) rfl (by decide) tw_742 rfl rfl ?_
      refine r_iconst (pc := 9) C dX9_purseOf_9 ?_
      refine r_ialoadE (pc := 10) C 2 0 dX9_purseOf_10 rfl rfl (by decide) (by omega) (flat_0 _ (by decide)) ?_
      refine r_icmp_ge (pc := 11) (tgt := 42) C dX9_purseOf_11 (by decide) (by first | omega | exact zand_rng _ _ | exact zor_rng _ _ | exact zxor_rng _ _ | exact BT.r (IT.b (by assumption)) _ _) (by first | omega | exact zand_rng _ _ | exact zor_rng _ _ | exact zxor_rng _ _ | exact BT.r (IT.b (by assumption)) _ _) (fun c11 => ?_) (fun c11 => ?_)
      · refine r_iload_n (pc := 42) C 2 dX9_purseOf_42 rfl rfl ?_
        exact r_iret (pc := 43) C hQ dX9_purseOf_43 rfl (jst_ri (by rw [show T 0 1 = i by omega]) rfl)
      · refine r_iload_n (pc := 14) C 2 dX9_purseOf_14 rfl rfl ?_
        refine r_aload_n (pc := 15) C 0 dX9_purseOf_15 rfl rfl ?_
        refine r_iload_n (pc := 16) C 3 dX9_purseOf_16 rfl rfl ?_
        refine r_iconst (pc := 17) C dX9_purseOf_17 ?_
        refine r_callV (pc := 18) (is := [0, 1, 2, 3, 4, 5, 6, 7, 8]) C YX9_get dX9_purseOf_18 tw_842 (c_X9_get3 l G _ _ _ _ (by first | assumption | omega | exact zand_rng _ _ | exact zor_rng _ _ | exact zxor_rng _ _ | exact BT.r (IT.b (by assumption)) _ _)) 0 0 rfl rfl (ci := 9) rfl rfl rfl (by decide) rfl rfl (Nat.le_of_ble_eq_true rfl) ⟨rfl, rfl, by decide, by decide⟩ (jst_i (R_uall ..) ?_)
        refine r_iload_n (pc := 21) C 1 dX9_purseOf_21 rfl rfl ?_
        refine r_icmp_ne (pc := 22) (tgt := 33) C dX9_purseOf_22 (by decide) (by first | omega | exact zand_rng _ _ | exact zor_rng _ _ | exact zxor_rng _ _ | exact BT.r (IT.b (by assumption)) _ _) (by first | omega | exact zand_rng _ _ | exact zor_rng _ _ | exact zxor_rng _ _ | exact BT.r (IT.b (by assumption)) _ _) (fun c22 => ?_) (fun c22 => ?_)
        · refine r_iconst (pc := 33) C dX9_purseOf_33 ?_
          refine r_iadd (pc := 34) C dX9_purseOf_34 ?_
          refine r_istore_n (pc := 35) C 2 dX9_purseOf_35 rfl (Nat.le_of_ble_eq_true rfl) ?_
          refine r_iinc (pc := 36) C dX9_purseOf_36 rfl ?_
          refine r_goto (pc := 39) (tgt := 4) C dX9_purseOf_39 (by decide) ?_
          refine Wc.to (ih (i + 1) (by omega) (by omega) (by omega) ) rfl (lsub_s (by first | rfl | (rw [sPurse_s _ q h0]; first | rw [if_pos (by omega)] | rw [if_neg (by omega)])) (lsub_s (by first | rfl | (rw [sPurse_s _ q h0]; first | rw [if_pos (by omega)] | rw [if_neg (by omega)])) (lsub_s (by first | rfl | (rw [sPurse_s _ q h0]; first | rw [if_pos (by omega)] | rw [if_neg (by omega)])) (lsub_s (by first | rfl | (rw [sPurse_s _ q h0]; first | rw [if_pos (by omega)] | rw [if_neg (by omega)])) lsub_0)))) (by rfl)
        · refine r_aload_n (pc := 25) C 0 dX9_purseOf_25 rfl rfl ?_
          refine r_iload_n (pc := 26) C 3 dX9_purseOf_26 rfl rfl ?_
          refine r_callV (pc := 27) (is := [0, 1, 2, 3, 4, 5, 6, 7, 8]) C YX9_valueOf dX9_purseOf_27 tw_846 (c_X9_valueOf l G _ _ _ _ (by first | assumption | omega | exact zand_rng _ _ | exact zor_rng _ _ | exact zxor_rng _ _ | exact BT.r (IT.b (by assumption)) _ _) (by first | assumption | omega | exact zand_rng _ _ | exact zor_rng _ _ | exact zxor_rng _ _ | exact BT.r (IT.b (by assumption)) _ _)) 0 0 rfl rfl (ci := 9) rfl rfl rfl (by decide) rfl rfl (Nat.le_of_ble_eq_true rfl) ⟨rfl, rfl, by decide, by decide⟩ (jst_i (R_uall ..) ?_)
          refine r_goto (pc := 30) (tgt := 34) C dX9_purseOf_30 (by decide) ?_
          refine r_iadd (pc := 34) C dX9_purseOf_34 ?_
          refine r_istore_n (pc := 35) C 2 dX9_purseOf_35 rfl (Nat.le_of_ble_eq_true rfl) ?_
          refine r_iinc (pc := 36) C dX9_purseOf_36 rfl ?_
          refine r_goto (pc := 39) (tgt := 4) C dX9_purseOf_39 (by decide) ?_
          refine Wc.to (ih (i + 1) (by omega) (by omega) (by omega) ) rfl (lsub_s (by first | rfl | (rw [sPurse_s _ q h0]; first | rw [if_pos (by omega)] | rw [if_neg (by omega)])) (lsub_s (by first | rfl | (rw [sPurse_s _ q h0]; first | rw [if_pos (by omega)] | rw [if_neg (by omega)])) (lsub_s (by first | rfl | (rw [sPurse_s _ q h0]; first | rw [if_pos (by omega)] | rw [if_neg (by omega)])) (lsub_s (by first | rfl | (rw [sPurse_s _ q h0]; first | rw [if_pos (by omega)] | rw [if_neg (by omega)])) lsub_0)))) (by rfl)
  refine Wc.to (L4 ((T 0 1 - (0)).toNat + 1) (0) (by omega) (by omega) (by omega) ) rfl (lsub_s rfl (lsub_s rfl (lsub_s rfl (lsub_s rfl lsub_0)))) (by rfl)

set_option maxRecDepth 100000 in
set_option maxHeartbeats 4000000 in
theorem c_X9_ownOf (l : Launch) (G : GT) (b : Nat → Nat) (R T : Tn) (q : Int) (hI : IT T) (hq : -2147483648 ≤ q ∧ q < 2147483648) : Cn l yX9_ownOf cX9_ownOf 4 (Option.some .int) ({ frames := 2, cells := 0, slots := 0, locals := 43 }) G [.ref (b 0), .int (iI q)] (wR G b R T) (jst (some (.int (iI (sOwn T q (T 0 1))))) (wR G b R T)) := by
  refine Cn_in RX9 [some (.ref (b 0)), some (.int (iI q)), none, none] (by decide +kernel) rfl rfl rfl (Nat.le_of_ble_eq_true rfl) (fun K C hQ => ?_)
  have hBB := hI.b
  have hLL := hI.L
  have hDD := hI.D
  refine r_iconst (pc := 0) C dX9_ownOf_0 ?_
  refine r_istore_n (pc := 1) C 2 dX9_ownOf_1 rfl (Nat.le_of_ble_eq_true rfl) ?_
  refine r_iconst (pc := 2) C dX9_ownOf_2 ?_
  refine r_istore_n (pc := 3) C 3 dX9_ownOf_3 rfl (Nat.le_of_ble_eq_true rfl) ?_
  have L4 : ∀ (n : Nat) (i : Int), 0 ≤ i → i ≤ T 0 1 → T 0 1 < i + n → Wc K G 4 [some (.ref (b 0)), some (.int (iI q)), some (.int (iI (sOwn T q i))), some (.int (iI i))] [] (wR G b R T) := by
    intro n
    induction n with
    | zero =>
      intro i h0 h1 hn; omega
    | succ n ih =>
      intro i h0 h1 hn 
      refine r_iload_n (pc := 4) C 3 dX9_ownOf_4 rfl rfl ?_
      refine r_aload_n (pc := 5) C 0 dX9_ownOf_5 rfl rfl ?_
      refine r_get (pc := 6) C 0 0 1 dX9_ownOf_6 in_X9 rfl rfl (ci := 9) rfl (by decide) tw_742 rfl rfl ?_
      refine r_iconst (pc := 9) C dX9_ownOf_9 ?_
      refine r_ialoadE (pc := 10) C 2 0 dX9_ownOf_10 rfl rfl (by decide) (by omega) (flat_0 _ (by decide)) ?_
      refine r_icmp_ge (pc := 11) (tgt := 50) C dX9_ownOf_11 (by decide) (by first | omega | exact zand_rng _ _ | exact zor_rng _ _ | exact zxor_rng _ _ | exact BT.r (IT.b (by assumption)) _ _) (by first | omega | exact zand_rng _ _ | exact zor_rng _ _ | exact zxor_rng _ _ | exact BT.r (IT.b (by assumption)) _ _) (fun c11 => ?_) (fun c11 => ?_)
      · refine r_iload_n (pc := 50) C 2 dX9_ownOf_50 rfl rfl ?_
        exact r_iret (pc := 51) C hQ dX9_ownOf_51 rfl (jst_ri (by rw [show T 0 1 = i by omega]) rfl)
      · refine r_iload_n (pc := 14) C 2 dX9_ownOf_14 rfl rfl ?_
        refine r_aload_n (pc := 15) C 0 dX9_ownOf_15 rfl rfl ?_
        refine r_iload_n (pc := 16) C 3 dX9_ownOf_16 rfl rfl ?_
        refine r_iconst (pc := 17) C dX9_ownOf_17 ?_
        refine r_callV (pc := 18) (is := [0, 1, 2, 3, 4, 5, 6, 7, 8]) C YX9_get dX9_ownOf_18 tw_842 (c_X9_get1 l G _ _ _ _ (by first | assumption | omega | exact zand_rng _ _ | exact zor_rng _ _ | exact zxor_rng _ _ | exact BT.r (IT.b (by assumption)) _ _)) 0 0 rfl rfl (ci := 9) rfl rfl rfl (by decide) rfl rfl (Nat.le_of_ble_eq_true rfl) ⟨rfl, rfl, by decide, by decide⟩ (jst_i (R_uall ..) ?_)
        refine r_iload_n (pc := 21) C 1 dX9_ownOf_21 rfl rfl ?_
        refine r_icmp_ne (pc := 22) (tgt := 41) C dX9_ownOf_22 (by decide) (by first | omega | exact zand_rng _ _ | exact zor_rng _ _ | exact zxor_rng _ _ | exact BT.r (IT.b (by assumption)) _ _) (by first | omega | exact zand_rng _ _ | exact zor_rng _ _ | exact zxor_rng _ _ | exact BT.r (IT.b (by assumption)) _ _) (fun c22 => ?_) (fun c22 => ?_)
        · refine r_iconst (pc := 41) C dX9_ownOf_41 ?_
          refine r_iadd (pc := 42) C dX9_ownOf_42 ?_
          refine r_istore_n (pc := 43) C 2 dX9_ownOf_43 rfl (Nat.le_of_ble_eq_true rfl) ?_
          refine r_iinc (pc := 44) C dX9_ownOf_44 rfl ?_
          refine r_goto (pc := 47) (tgt := 4) C dX9_ownOf_47 (by decide) ?_
          refine Wc.to (ih (i + 1) (by omega) (by omega) (by omega) ) rfl (lsub_s (by first | rfl | (rw [sOwn_s _ q h0]; first | rw [if_pos (by omega)] | rw [if_neg (by omega)])) (lsub_s (by first | rfl | (rw [sOwn_s _ q h0]; first | rw [if_pos (by omega)] | rw [if_neg (by omega)])) (lsub_s (by first | rfl | (rw [sOwn_s _ q h0]; first | rw [if_pos (by omega)] | rw [if_neg (by omega)])) (lsub_s (by first | rfl | (rw [sOwn_s _ q h0]; first | rw [if_pos (by omega)] | rw [if_neg (by omega)])) lsub_0)))) (by rfl)
        · refine r_aload_n (pc := 25) C 0 dX9_ownOf_25 rfl rfl ?_
          refine r_iload_n (pc := 26) C 3 dX9_ownOf_26 rfl rfl ?_
          refine r_callV (pc := 27) (is := [0, 1, 2, 3, 4, 5, 6, 7, 8]) C YX9_isLost dX9_ownOf_27 tw_854 (c_X9_isLost l G _ _ _ _ (by first | assumption | omega | exact zand_rng _ _ | exact zor_rng _ _ | exact zxor_rng _ _ | exact BT.r (IT.b (by assumption)) _ _) (by first | assumption | omega | exact zand_rng _ _ | exact zor_rng _ _ | exact zxor_rng _ _ | exact BT.r (IT.b (by assumption)) _ _)) 0 0 rfl rfl (ci := 9) rfl rfl rfl (by decide) rfl rfl (Nat.le_of_ble_eq_true rfl) ⟨rfl, rfl, by decide, by decide⟩ (jst_i (R_uall ..) ?_)
          refine r_ifb_ne (pc := 30) (tgt := 41) C dX9_ownOf_30 (by decide) (fun c30 => ?_) (fun c30 => ?_)
          · refine r_iconst (pc := 41) C dX9_ownOf_41 ?_
            refine r_iadd (pc := 42) C dX9_ownOf_42 ?_
            refine r_istore_n (pc := 43) C 2 dX9_ownOf_43 rfl (Nat.le_of_ble_eq_true rfl) ?_
            refine r_iinc (pc := 44) C dX9_ownOf_44 rfl ?_
            refine r_goto (pc := 47) (tgt := 4) C dX9_ownOf_47 (by decide) ?_
            refine Wc.to (ih (i + 1) (by omega) (by omega) (by omega) ) rfl (lsub_s (by first | rfl | (rw [sOwn_s _ q h0]; first | rw [if_pos (by omega)] | rw [if_neg (by omega)])) (lsub_s (by first | rfl | (rw [sOwn_s _ q h0]; first | rw [if_pos (by omega)] | rw [if_neg (by omega)])) (lsub_s (by first | rfl | (rw [sOwn_s _ q h0]; first | rw [if_pos (by omega)] | rw [if_neg (by omega)])) (lsub_s (by first | rfl | (rw [sOwn_s _ q h0]; first | rw [if_pos (by omega)] | rw [if_neg (by omega)])) lsub_0)))) (by rfl)
          · refine r_aload_n (pc := 33) C 0 dX9_ownOf_33 rfl rfl ?_
            refine r_iload_n (pc := 34) C 3 dX9_ownOf_34 rfl rfl ?_
            refine r_callV (pc := 35) (is := [0, 1, 2, 3, 4, 5, 6, 7, 8]) C YX9_valueOf dX9_ownOf_35 tw_846 (c_X9_valueOf l G _ _ _ _ (by first | assumption | omega | exact zand_rng _ _ | exact zor_rng _ _ | exact zxor_rng _ _ | exact BT.r (IT.b (by assumption)) _ _) (by first | assumption | omega | exact zand_rng _ _ | exact zor_rng _ _ | exact zxor_rng _ _ | exact BT.r (IT.b (by assumption)) _ _)) 0 0 rfl rfl (ci := 9) rfl rfl rfl (by decide) rfl rfl (Nat.le_of_ble_eq_true rfl) ⟨rfl, rfl, by decide, by decide⟩ (jst_i (R_uall ..) ?_)
            refine r_goto (pc := 38) (tgt := 42) C dX9_ownOf_38 (by decide) ?_
            refine r_iadd (pc := 42) C dX9_ownOf_42 ?_
            refine r_istore_n (pc := 43) C 2 dX9_ownOf_43 rfl (Nat.le_of_ble_eq_true rfl) ?_
            refine r_iinc (pc := 44) C dX9_ownOf_44 rfl ?_
            refine r_goto (pc := 47) (tgt := 4) C dX9_ownOf_47 (by decide) ?_
            refine Wc.to (ih (i + 1) (by omega) (by omega) (by omega) ) rfl (lsub_s (by first | rfl | (rw [sOwn_s _ q h0]; first | rw [if_pos (by omega)] | rw [if_neg (by omega)])) (lsub_s (by first | rfl | (rw [sOwn_s _ q h0]; first | rw [if_pos (by omega)] | rw [if_neg (by omega)])) (lsub_s (by first | rfl | (rw [sOwn_s _ q h0]; first | rw [if_pos (by omega)] | rw [if_neg (by omega)])) (lsub_s (by first | rfl | (rw [sOwn_s _ q h0]; first | rw [if_pos (by omega)] | rw [if_neg (by omega)])) lsub_0)))) (by rfl)
  refine Wc.to (L4 ((T 0 1 - (0)).toNat + 1) (0) (by omega) (by omega) (by omega) ) rfl (lsub_s rfl (lsub_s rfl (lsub_s rfl (lsub_s rfl lsub_0)))) (by rfl)

set_option maxRecDepth 100000 in
set_option maxHeartbeats 4000000 in
theorem c_X9_layEggs (l : Launch) (G : GT) (b : Nat → Nat) (R T : Tn) (hI : IT T) : Cn l yX9_layEggs cX9_layEggs 5 none ({ frames := 1, cells := 0, slots := 0, locals := 23 }) G [.ref (b 0)] (wR G b R T) (jst none (wR G b R (sEggS T (T 0 1)))) := by
  refine Cn_in RX9 [some (.ref (b 0)), none, none, none, none] (by decide +kernel) rfl rfl rfl (Nat.le_of_ble_eq_true rfl) (fun K C hQ => ?_)
  have hBB := hI.b
  have hLL := hI.L
  have hDD := hI.D
  refine r_aload_n (pc := 0) C 0 dX9_layEggs_0 rfl rfl ?_
  refine r_get (pc := 1) C 0 0 1 dX9_layEggs_1 in_X9 rfl rfl (ci := 9) rfl (by decide) tw_742 rfl rfl ?_
  refine r_iconst (pc := 4) C dX9_layEggs_4 ?_
  refine r_ialoadE (pc := 5) C 2 0 dX9_layEggs_5 rfl rfl (by decide) (by omega) (flat_0 _ (by decide)) ?_
  refine r_istore_n (pc := 6) C 1 dX9_layEggs_6 rfl (Nat.le_of_ble_eq_true rfl) ?_
  refine r_iconst (pc := 7) C dX9_layEggs_7 ?_
  refine r_istore_n (pc := 8) C 2 dX9_layEggs_8 rfl (Nat.le_of_ble_eq_true rfl) ?_
  have L9 : ∀ (n : Nat) (i : Int), 0 ≤ i → i ≤ T 0 1 → T 0 1 < i + n → Wc K G 9 [some (.ref (b 0)), some (.int (iI (T 0 1))), some (.int (iI i)), none, none] [] (wR G b R (sEggS T i)) := by
    intro n
    induction n with
    | zero =>
      intro i h0 h1 hn; omega
    | succ n ih =>
      intro i h0 h1 hn 
      obtain ⟨hU, hU1, hU3, hU4, -⟩ := sEggS_p hI h0 h1
      refine r_iload_n (pc := 9) C 2 dX9_layEggs_9 rfl rfl ?_
      refine r_iload_n (pc := 10) C 1 dX9_layEggs_10 rfl rfl ?_
      refine r_icmp_ge (pc := 11) (tgt := 158) C dX9_layEggs_11 (by decide) (by first | omega | exact zand_rng _ _ | exact zor_rng _ _ | exact zxor_rng _ _ | exact BT.r (IT.b (by assumption)) _ _) (by first | omega | exact zand_rng _ _ | exact zor_rng _ _ | exact zxor_rng _ _ | exact BT.r (IT.b (by assumption)) _ _) (fun c11 => ?_) (fun c11 => ?_)
      · obtain rfl : i = T 0 1 := by omega
        exact r_vret (pc := 158) C hQ dX9_layEggs_158 rfl (jst_rv rfl)
      · refine r_aload_n (pc := 14) C 0 dX9_layEggs_14 rfl rfl ?_
        refine r_iload_n (pc := 15) C 2 dX9_layEggs_15 rfl rfl ?_
        refine r_iconst (pc := 16) C dX9_layEggs_16 ?_
        refine r_callV (pc := 17) (is := [0, 1, 2, 3, 4, 5, 6, 7, 8]) C YX9_get dX9_layEggs_17 tw_842 (c_X9_get0 l G _ _ _ _ (by first | assumption | omega | exact zand_rng _ _ | exact zor_rng _ _ | exact zxor_rng _ _ | exact BT.r (IT.b (by assumption)) _ _)) 0 0 rfl rfl (ci := 9) rfl rfl rfl (by decide) rfl rfl (Nat.le_of_ble_eq_true rfl) ⟨rfl, rfl, by decide, by decide⟩ (jst_i (R_uall ..) ?_)
        refine r_iconst (pc := 20) C dX9_layEggs_20 ?_
        refine r_icmp_ne (pc := 21) (tgt := 75) C dX9_layEggs_21 (by decide) (by first | omega | exact zand_rng _ _ | exact zor_rng _ _ | exact zxor_rng _ _ | exact BT.r (IT.b (by assumption)) _ _) (by first | omega | exact zand_rng _ _ | exact zor_rng _ _ | exact zxor_rng _ _ | exact BT.r (IT.b (by assumption)) _ _) (fun c21 => ?_) (fun c21 => ?_)
        · refine r_iconst (pc := 75) C dX9_layEggs_75 ?_
          refine r_istore_n (pc := 76) C 3 dX9_layEggs_76 rfl (Nat.le_of_ble_eq_true rfl) ?_
          refine r_iload_n (pc := 77) C 3 dX9_layEggs_77 rfl rfl ?_
          refine r_if_ne (pc := 78) (tgt := 84) C dX9_layEggs_78 (by decide) (by first | omega | exact zand_rng _ _ | exact zor_rng _ _ | exact zxor_rng _ _ | exact BT.r (IT.b (by assumption)) _ _) (fun c78 => absurd c78 (by omega)) (fun c78 => ?_)
          refine r_goto (pc := 81) (tgt := 152) C dX9_layEggs_81 (by decide) ?_
          refine r_iinc (pc := 152) C dX9_layEggs_152 rfl ?_
          refine r_goto (pc := 155) (tgt := 9) C dX9_layEggs_155 (by decide) ?_
          refine Wc.to (ih (i + 1) (by omega) (by omega) (by omega) ) rfl (lsub_s rfl (lsub_s rfl (lsub_s rfl (lsub_n (lsub_n lsub_0))))) (by rw [sEggS_s T h0]; first | (rw [if_neg (by omega)]; done) | (rw [if_pos (by omega), ← sAdd_m]; refine congrArg (wR G b R) ?_; rw [hv4, hv4']; done))
        · refine r_aload_n (pc := 24) C 0 dX9_layEggs_24 rfl rfl ?_
          refine r_iload_n (pc := 25) C 2 dX9_layEggs_25 rfl rfl ?_
          refine r_iconst (pc := 26) C dX9_layEggs_26 ?_
          refine r_callV (pc := 27) (is := [0, 1, 2, 3, 4, 5, 6, 7, 8]) C YX9_get dX9_layEggs_27 tw_842 (c_X9_get3 l G _ _ _ _ (by first | assumption | omega | exact zand_rng _ _ | exact zor_rng _ _ | exact zxor_rng _ _ | exact BT.r (IT.b (by assumption)) _ _)) 0 0 rfl rfl (ci := 9) rfl rfl rfl (by decide) rfl rfl (Nat.le_of_ble_eq_true rfl) ⟨rfl, rfl, by decide, by decide⟩ (jst_i (R_uall ..) ?_)
          refine r_aload_n (pc := 30) C 0 dX9_layEggs_30 rfl rfl ?_
          refine r_iload_n (pc := 31) C 2 dX9_layEggs_31 rfl rfl ?_
          refine r_iconst (pc := 32) C dX9_layEggs_32 ?_
          refine r_callV (pc := 33) (is := [0, 1, 2, 3, 4, 5, 6, 7, 8]) C YX9_get dX9_layEggs_33 tw_842 (c_X9_get1 l G _ _ _ _ (by first | assumption | omega | exact zand_rng _ _ | exact zor_rng _ _ | exact zxor_rng _ _ | exact BT.r (IT.b (by assumption)) _ _)) 0 0 rfl rfl (ci := 9) rfl rfl rfl (by decide) rfl rfl (Nat.le_of_ble_eq_true rfl) ⟨rfl, rfl, by decide, by decide⟩ (jst_i (R_uall ..) ?_)
          refine r_icmp_ne (pc := 36) (tgt := 75) C dX9_layEggs_36 (by decide) (by first | omega | exact zand_rng _ _ | exact zor_rng _ _ | exact zxor_rng _ _ | exact BT.r (IT.b (by assumption)) _ _) (by first | omega | exact zand_rng _ _ | exact zor_rng _ _ | exact zxor_rng _ _ | exact BT.r (IT.b (by assumption)) _ _) (fun c36 => ?_) (fun c36 => ?_)
          · refine r_iconst (pc := 75) C dX9_layEggs_75 ?_
            refine r_istore_n (pc := 76) C 3 dX9_layEggs_76 rfl (Nat.le_of_ble_eq_true rfl) ?_
            refine r_iload_n (pc := 77) C 3 dX9_layEggs_77 rfl rfl ?_
            refine r_if_ne (pc := 78) (tgt := 84) C dX9_layEggs_78 (by decide) (by first | omega | exact zand_rng _ _ | exact zor_rng _ _ | exact zxor_rng _ _ | exact BT.r (IT.b (by assumption)) _ _) (fun c78 => absurd c78 (by omega)) (fun c78 => ?_)
            refine r_goto (pc := 81) (tgt := 152) C dX9_layEggs_81 (by decide) ?_
            refine r_iinc (pc := 152) C dX9_layEggs_152 rfl ?_
            refine r_goto (pc := 155) (tgt := 9) C dX9_layEggs_155 (by decide) ?_
            refine Wc.to (ih (i + 1) (by omega) (by omega) (by omega) ) rfl (lsub_s rfl (lsub_s rfl (lsub_s rfl (lsub_n (lsub_n lsub_0))))) (by rw [sEggS_s T h0]; first | (rw [if_neg (by omega)]; done) | (rw [if_pos (by omega), ← sAdd_m]; refine congrArg (wR G b R) ?_; rw [hv4, hv4']; done))
          · refine r_aload_n (pc := 39) C 0 dX9_layEggs_39 rfl rfl ?_
            refine r_iload_n (pc := 40) C 2 dX9_layEggs_40 rfl rfl ?_
            refine r_iconst (pc := 41) C dX9_layEggs_41 ?_
            refine r_callV (pc := 42) (is := [0, 1, 2, 3, 4, 5, 6, 7, 8]) C YX9_get dX9_layEggs_42 tw_842 (c_X9_get2 l G _ _ _ _ (by first | assumption | omega | exact zand_rng _ _ | exact zor_rng _ _ | exact zxor_rng _ _ | exact BT.r (IT.b (by assumption)) _ _)) 0 0 rfl rfl (ci := 9) rfl rfl rfl (by decide) rfl rfl (Nat.le_of_ble_eq_true rfl) ⟨rfl, rfl, by decide, by decide⟩ (jst_i (R_uall ..) ?_)
            refine r_iconst (pc := 45) C dX9_layEggs_45 ?_
            refine r_icmp_lt (pc := 46) (tgt := 75) C dX9_layEggs_46 (by decide) (by first | omega | exact zand_rng _ _ | exact zor_rng _ _ | exact zxor_rng _ _ | exact BT.r (IT.b (by assumption)) _ _) (by first | omega | exact zand_rng _ _ | exact zor_rng _ _ | exact zxor_rng _ _ | exact BT.r (IT.b (by assumption)) _ _) (fun c46 => ?_) (fun c46 => ?_)
            · refine r_iconst (pc := 75) C dX9_layEggs_75 ?_
              refine r_istore_n (pc := 76) C 3 dX9_layEggs_76 rfl (Nat.le_of_ble_eq_true rfl) ?_
              refine r_iload_n (pc := 77) C 3 dX9_layEggs_77 rfl rfl ?_
              refine r_if_ne (pc := 78) (tgt := 84) C dX9_layEggs_78 (by decide) (by first | omega | exact zand_rng _ _ | exact zor_rng _ _ | exact zxor_rng _ _ | exact BT.r (IT.b (by assumption)) _ _) (fun c78 => absurd c78 (by omega)) (fun c78 => ?_)
              refine r_goto (pc := 81) (tgt := 152) C dX9_layEggs_81 (by decide) ?_
              refine r_iinc (pc := 152) C dX9_layEggs_152 rfl ?_
              refine r_goto (pc := 155) (tgt := 9) C dX9_layEggs_155 (by decide) ?_
              refine Wc.to (ih (i + 1) (by omega) (by omega) (by omega) ) rfl (lsub_s rfl (lsub_s rfl (lsub_s rfl (lsub_n (lsub_n lsub_0))))) (by rw [sEggS_s T h0]; first | (rw [if_neg (by omega)]; done) | (rw [if_pos (by omega), ← sAdd_m]; refine congrArg (wR G b R) ?_; rw [hv4, hv4']; done))
            · refine r_aload_n (pc := 49) C 0 dX9_layEggs_49 rfl rfl ?_
              refine r_iload_n (pc := 50) C 2 dX9_layEggs_50 rfl rfl ?_
              refine r_iconst (pc := 51) C dX9_layEggs_51 ?_
              refine r_callV (pc := 52) (is := [0, 1, 2, 3, 4, 5, 6, 7, 8]) C YX9_get dX9_layEggs_52 tw_842 (c_X9_get2 l G _ _ _ _ (by first | assumption | omega | exact zand_rng _ _ | exact zor_rng _ _ | exact zxor_rng _ _ | exact BT.r (IT.b (by assumption)) _ _)) 0 0 rfl rfl (ci := 9) rfl rfl rfl (by decide) rfl rfl (Nat.le_of_ble_eq_true rfl) ⟨rfl, rfl, by decide, by decide⟩ (jst_i (R_uall ..) ?_)
              refine r_bipush (pc := 55) C dX9_layEggs_55 (by decide) ?_
              refine r_icmp_gt (pc := 57) (tgt := 75) C dX9_layEggs_57 (by decide) (by first | omega | exact zand_rng _ _ | exact zor_rng _ _ | exact zxor_rng _ _ | exact BT.r (IT.b (by assumption)) _ _) (by first | omega | exact zand_rng _ _ | exact zor_rng _ _ | exact zxor_rng _ _ | exact BT.r (IT.b (by assumption)) _ _) (fun c57 => ?_) (fun c57 => ?_)
              · refine r_iconst (pc := 75) C dX9_layEggs_75 ?_
                refine r_istore_n (pc := 76) C 3 dX9_layEggs_76 rfl (Nat.le_of_ble_eq_true rfl) ?_
                refine r_iload_n (pc := 77) C 3 dX9_layEggs_77 rfl rfl ?_
                refine r_if_ne (pc := 78) (tgt := 84) C dX9_layEggs_78 (by decide) (by first | omega | exact zand_rng _ _ | exact zor_rng _ _ | exact zxor_rng _ _ | exact BT.r (IT.b (by assumption)) _ _) (fun c78 => absurd c78 (by omega)) (fun c78 => ?_)
                refine r_goto (pc := 81) (tgt := 152) C dX9_layEggs_81 (by decide) ?_
                refine r_iinc (pc := 152) C dX9_layEggs_152 rfl ?_
                refine r_goto (pc := 155) (tgt := 9) C dX9_layEggs_155 (by decide) ?_
                refine Wc.to (ih (i + 1) (by omega) (by omega) (by omega) ) rfl (lsub_s rfl (lsub_s rfl (lsub_s rfl (lsub_n (lsub_n lsub_0))))) (by rw [sEggS_s T h0]; first | (rw [if_neg (by omega)]; done) | (rw [if_pos (by omega), ← sAdd_m]; refine congrArg (wR G b R) ?_; rw [hv4, hv4']; done))
              · refine r_aload_n (pc := 60) C 0 dX9_layEggs_60 rfl rfl ?_
                refine r_get (pc := 61) C 0 0 1 dX9_layEggs_61 in_X9 rfl rfl (ci := 9) rfl (by decide) tw_742 rfl rfl ?_
                refine r_iconst (pc := 64) C dX9_layEggs_64 ?_
                refine r_ialoadE (pc := 65) C 2 0 dX9_layEggs_65 rfl rfl (by decide) (by omega) (flat_0 _ (by decide)) ?_
                refine r_bipush (pc := 66) C dX9_layEggs_66 (by decide) ?_
                refine r_icmp_ge (pc := 68) (tgt := 75) C dX9_layEggs_68 (by decide) (by first | omega | exact zand_rng _ _ | exact zor_rng _ _ | exact zxor_rng _ _ | exact BT.r (IT.b (by assumption)) _ _) (by first | omega | exact zand_rng _ _ | exact zor_rng _ _ | exact zxor_rng _ _ | exact BT.r (IT.b (by assumption)) _ _) (fun c68 => ?_) (fun c68 => ?_)
                · refine r_iconst (pc := 75) C dX9_layEggs_75 ?_
                  refine r_istore_n (pc := 76) C 3 dX9_layEggs_76 rfl (Nat.le_of_ble_eq_true rfl) ?_
                  refine r_iload_n (pc := 77) C 3 dX9_layEggs_77 rfl rfl ?_
                  refine r_if_ne (pc := 78) (tgt := 84) C dX9_layEggs_78 (by decide) (by first | omega | exact zand_rng _ _ | exact zor_rng _ _ | exact zxor_rng _ _ | exact BT.r (IT.b (by assumption)) _ _) (fun c78 => absurd c78 (by omega)) (fun c78 => ?_)
                  refine r_goto (pc := 81) (tgt := 152) C dX9_layEggs_81 (by decide) ?_
                  refine r_iinc (pc := 152) C dX9_layEggs_152 rfl ?_
                  refine r_goto (pc := 155) (tgt := 9) C dX9_layEggs_155 (by decide) ?_
                  refine Wc.to (ih (i + 1) (by omega) (by omega) (by omega) ) rfl (lsub_s rfl (lsub_s rfl (lsub_s rfl (lsub_n (lsub_n lsub_0))))) (by rw [sEggS_s T h0]; first | (rw [if_neg (by omega)]; done) | (rw [if_pos (by omega), ← sAdd_m]; refine congrArg (wR G b R) ?_; rw [hv4, hv4']; done))
                · refine r_iconst (pc := 71) C dX9_layEggs_71 ?_
                  refine r_goto (pc := 72) (tgt := 76) C dX9_layEggs_72 (by decide) ?_
                  refine r_istore_n (pc := 76) C 3 dX9_layEggs_76 rfl (Nat.le_of_ble_eq_true rfl) ?_
                  refine r_iload_n (pc := 77) C 3 dX9_layEggs_77 rfl rfl ?_
                  refine r_if_ne (pc := 78) (tgt := 84) C dX9_layEggs_78 (by decide) (by first | omega | exact zand_rng _ _ | exact zor_rng _ _ | exact zxor_rng _ _ | exact BT.r (IT.b (by assumption)) _ _) (fun c78 => ?_) (fun c78 => absurd c78 (by omega))
                  have hv4 : ∀ x y : Int, up (up (sEggS T i) 0 1 x) 3 (sEggS T i 0 1) y 4 i = sEggS T i 4 i := fun x y => rfl
                  have hv4' : ∀ x y z : Int, ∀ w : Int, up (up (up (up (sEggS T i) 0 1 x) 3 (sEggS T i 0 1) y) 4 (sEggS T i 0 1) z) 5 (sEggS T i 0 1) w 4 i = sEggS T i 4 i := fun x y z w => by
                    rw [up_a (by decide), up_z (by omega), up_a (by decide), up_a (by decide)]
                  refine r_aload_n (pc := 84) C 0 dX9_layEggs_84 rfl rfl ?_
                  refine r_get (pc := 85) C 0 0 1 dX9_layEggs_85 in_X9 rfl rfl (ci := 9) rfl (by decide) tw_742 rfl rfl ?_
                  refine r_iconst (pc := 88) C dX9_layEggs_88 ?_
                  refine r_ialoadE (pc := 89) C 2 0 dX9_layEggs_89 rfl rfl (by decide) (by omega) (flat_0 _ (by decide)) ?_
                  refine r_istore (pc := 90) C dX9_layEggs_90 (Nat.le_of_ble_eq_true rfl) ?_
                  refine r_aload_n (pc := 92) C 0 dX9_layEggs_92 rfl rfl ?_
                  refine r_get (pc := 93) C 0 0 1 dX9_layEggs_93 in_X9 rfl rfl (ci := 9) rfl (by decide) tw_742 rfl rfl ?_
                  refine r_iconst (pc := 96) C dX9_layEggs_96 ?_
                  refine r_dup2 (pc := 97) C dX9_layEggs_97 rfl rfl ?_
                  refine r_ialoadE (pc := 98) C 2 0 dX9_layEggs_98 rfl rfl (by decide) (by omega) (flat_0 _ (by decide)) ?_
                  refine r_iconst (pc := 99) C dX9_layEggs_99 ?_
                  refine r_iadd (pc := 100) C dX9_layEggs_100 ?_
                  refine r_iastore (pc := 101) C 2 0 dX9_layEggs_101 rfl rfl (by decide) (by omega) rfl (R_s0 _ _ _ _ (by decide)) ?_
                  refine r_aload_n (pc := 102) C 0 dX9_layEggs_102 rfl rfl ?_
                  refine r_iload (pc := 103) C dX9_layEggs_103 rfl ?_
                  refine r_iconst (pc := 105) C dX9_layEggs_105 ?_
                  refine r_iconst (pc := 106) C dX9_layEggs_106 ?_
                  refine r_callV (pc := 107) (is := [0, 1, 2, 3, 4, 5, 6, 7, 8]) C YX9_puts dX9_layEggs_107 tw_893 (c_X9_puts0 l G _ _ _ _ _ (by first | assumption | omega | exact zand_rng _ _ | exact zor_rng _ _ | exact zxor_rng _ _ | exact BT.r (IT.b (by assumption)) _ _)) 0 0 rfl rfl (ci := 9) rfl rfl rfl (by decide) rfl rfl (Nat.le_of_ble_eq_true rfl) ⟨rfl, rfl, by decide, by decide⟩ (jst_v (R_uall ..) ?_)
                  refine r_aload_n (pc := 110) C 0 dX9_layEggs_110 rfl rfl ?_
                  refine r_iload (pc := 111) C dX9_layEggs_111 rfl ?_
                  refine r_iconst (pc := 113) C dX9_layEggs_113 ?_
                  refine r_aload_n (pc := 114) C 0 dX9_layEggs_114 rfl rfl ?_
                  refine r_iload_n (pc := 115) C 2 dX9_layEggs_115 rfl rfl ?_
                  refine r_iconst (pc := 116) C dX9_layEggs_116 ?_
                  refine r_callV (pc := 117) (is := [0, 1, 2, 3, 4, 5, 6, 7, 8]) C YX9_get dX9_layEggs_117 tw_842 (c_X9_get1 l G _ _ _ _ (by first | assumption | omega | exact zand_rng _ _ | exact zor_rng _ _ | exact zxor_rng _ _ | exact BT.r (IT.b (by assumption)) _ _)) 0 0 rfl rfl (ci := 9) rfl rfl rfl (by decide) rfl rfl (Nat.le_of_ble_eq_true rfl) ⟨rfl, rfl, by decide, by decide⟩ (jst_i (R_uall ..) ?_)
                  refine r_callV (pc := 120) (is := [0, 1, 2, 3, 4, 5, 6, 7, 8]) C YX9_puts dX9_layEggs_120 tw_893 (c_X9_puts1 l G _ _ _ _ _ (by first | assumption | omega | exact zand_rng _ _ | exact zor_rng _ _ | exact zxor_rng _ _ | exact BT.r (IT.b (by assumption)) _ _)) 0 0 rfl rfl (ci := 9) rfl rfl rfl (by decide) rfl rfl (Nat.le_of_ble_eq_true rfl) ⟨rfl, rfl, by decide, by decide⟩ (jst_v (R_uall ..) ?_)
                  refine r_aload_n (pc := 123) C 0 dX9_layEggs_123 rfl rfl ?_
                  refine r_iload (pc := 124) C dX9_layEggs_124 rfl ?_
                  refine r_iconst (pc := 126) C dX9_layEggs_126 ?_
                  refine r_iconst (pc := 127) C dX9_layEggs_127 ?_
                  refine r_callV (pc := 128) (is := [0, 1, 2, 3, 4, 5, 6, 7, 8]) C YX9_puts dX9_layEggs_128 tw_893 (c_X9_puts2 l G _ _ _ _ _ (by first | assumption | omega | exact zand_rng _ _ | exact zor_rng _ _ | exact zxor_rng _ _ | exact BT.r (IT.b (by assumption)) _ _)) 0 0 rfl rfl (ci := 9) rfl rfl rfl (by decide) rfl rfl (Nat.le_of_ble_eq_true rfl) ⟨rfl, rfl, by decide, by decide⟩ (jst_v (R_uall ..) ?_)
                  refine r_aload_n (pc := 131) C 0 dX9_layEggs_131 rfl rfl ?_
                  refine r_iload (pc := 132) C dX9_layEggs_132 rfl ?_
                  refine r_iconst (pc := 134) C dX9_layEggs_134 ?_
                  refine r_aload_n (pc := 135) C 0 dX9_layEggs_135 rfl rfl ?_
                  refine r_iload_n (pc := 136) C 2 dX9_layEggs_136 rfl rfl ?_
                  refine r_iconst (pc := 137) C dX9_layEggs_137 ?_
                  refine r_callV (pc := 138) (is := [0, 1, 2, 3, 4, 5, 6, 7, 8]) C YX9_get dX9_layEggs_138 tw_842 (c_X9_get1 l G _ _ _ _ (by first | assumption | omega | exact zand_rng _ _ | exact zor_rng _ _ | exact zxor_rng _ _ | exact BT.r (IT.b (by assumption)) _ _)) 0 0 rfl rfl (ci := 9) rfl rfl rfl (by decide) rfl rfl (Nat.le_of_ble_eq_true rfl) ⟨rfl, rfl, by decide, by decide⟩ (jst_i (R_uall ..) ?_)
                  refine r_callV (pc := 141) (is := [0, 1, 2, 3, 4, 5, 6, 7, 8]) C YX9_puts dX9_layEggs_141 tw_893 (c_X9_puts3 l G _ _ _ _ _ (by first | assumption | omega | exact zand_rng _ _ | exact zor_rng _ _ | exact zxor_rng _ _ | exact BT.r (IT.b (by assumption)) _ _)) 0 0 rfl rfl (ci := 9) rfl rfl rfl (by decide) rfl rfl (Nat.le_of_ble_eq_true rfl) ⟨rfl, rfl, by decide, by decide⟩ (jst_v (R_uall ..) ?_)
                  refine r_aload_n (pc := 144) C 0 dX9_layEggs_144 rfl rfl ?_
                  refine r_iload (pc := 145) C dX9_layEggs_145 rfl ?_
                  refine r_iconst (pc := 147) C dX9_layEggs_147 ?_
                  refine r_iconst (pc := 148) C dX9_layEggs_148 ?_
                  refine r_callV (pc := 149) (is := [0, 1, 2, 3, 4, 5, 6, 7, 8]) C YX9_puts dX9_layEggs_149 tw_893 (c_X9_puts4 l G _ _ _ _ _ (by first | assumption | omega | exact zand_rng _ _ | exact zor_rng _ _ | exact zxor_rng _ _ | exact BT.r (IT.b (by assumption)) _ _)) 0 0 rfl rfl (ci := 9) rfl rfl rfl (by decide) rfl rfl (Nat.le_of_ble_eq_true rfl) ⟨rfl, rfl, by decide, by decide⟩ (jst_v (R_uall ..) ?_)
                  refine r_iinc (pc := 152) C dX9_layEggs_152 rfl ?_
                  refine r_goto (pc := 155) (tgt := 9) C dX9_layEggs_155 (by decide) ?_
                  refine Wc.to (ih (i + 1) (by omega) (by omega) (by omega) ) rfl (lsub_s rfl (lsub_s rfl (lsub_s rfl (lsub_n (lsub_n lsub_0))))) (by rw [sEggS_s T h0]; first | (rw [if_neg (by omega)]; done) | (rw [if_pos (by omega), ← sAdd_m]; refine congrArg (wR G b R) ?_; rw [hv4, hv4']; done))
  refine Wc.to (L9 ((T 0 1 - (0)).toNat + 1) (0) (by omega) (by omega) (by omega) ) rfl (lsub_s rfl (lsub_s rfl (lsub_s rfl (lsub_n (lsub_n lsub_0))))) (by rfl)

set_option maxRecDepth 100000 in
set_option maxHeartbeats 4000000 in
theorem c_X9_goes (l : Launch) (G : GT) (b : Nat → Nat) (R T : Tn) (hI : IT T) (hk : T 0 4 < 1100) : Cn l yX9_goes cX9_goes 3 none ({ frames := 5, cells := 0, slots := 0, locals := 112 }) G [.ref (b 0)] (wR G b R T) (jst none (wR G b R (sDusk T))) := by
  refine Cn_in RX9 [some (.ref (b 0)), none, none] (by decide +kernel) rfl rfl rfl (Nat.le_of_ble_eq_true rfl) (fun K C hQ => ?_)
  have hBB := hI.b
  have hLL := hI.L
  have hDD := hI.D
  have hkk := hI.k
  obtain ⟨p1, p2, -⟩ := sD2_p hI
  obtain ⟨p4, p5, p6, -⟩ := sD4_p hI
  refine r_aload_n (pc := 0) C 0 dX9_goes_0 rfl rfl ?_
  refine r_get (pc := 1) C 0 0 1 dX9_goes_1 in_X9 rfl rfl (ci := 9) rfl (by decide) tw_742 rfl rfl ?_
  refine r_iconst (pc := 4) C dX9_goes_4 ?_
  refine r_ialoadE (pc := 5) C 2 0 dX9_goes_5 rfl rfl (by decide) (by omega) (flat_0 _ (by decide)) ?_
  refine r_istore_n (pc := 6) C 1 dX9_goes_6 rfl (Nat.le_of_ble_eq_true rfl) ?_
  refine r_iconst (pc := 7) C dX9_goes_7 ?_
  refine r_istore_n (pc := 8) C 2 dX9_goes_8 rfl (Nat.le_of_ble_eq_true rfl) ?_
  have L9 : ∀ (n : Nat) (i : Int), 0 ≤ i → i ≤ T 0 1 → T 0 1 < i + n → Wc K G 9 [some (.ref (b 0)), some (.int (iI (T 0 1))), some (.int (iI i))] [] (wR G b R (sFlyS T i)) := by
    intro n
    induction n with
    | zero =>
      intro i h0 h1 hn; omega
    | succ n ih =>
      intro i h0 h1 hn 
      obtain ⟨hU, hU2, -⟩ := sFlyS_p hI h0 h1
      have e1 : sFlyS T i 0 1 = T 0 1 := by rw [hU2 0 (by decide)]
      have e10 : sFlyS T i 0 0 = T 0 0 := by rw [hU2 0 (by decide)]
      refine r_iload_n (pc := 9) C 2 dX9_goes_9 rfl rfl ?_
      refine r_iload_n (pc := 10) C 1 dX9_goes_10 rfl rfl ?_
      refine r_icmp_ge (pc := 11) (tgt := 67) C dX9_goes_11 (by decide) (by first | omega | exact zand_rng _ _ | exact zor_rng _ _ | exact zxor_rng _ _ | exact BT.r (IT.b (by assumption)) _ _) (by first | omega | exact zand_rng _ _ | exact zor_rng _ _ | exact zxor_rng _ _ | exact BT.r (IT.b (by assumption)) _ _) (fun c11 => ?_) (fun c11 => ?_)
      · obtain rfl : i = T 0 1 := by omega
        have hA := hU
        have eA : sFlyS T (T 0 1) 0 = T 0 := hU2 0 (by decide)
        refine r_iconst (pc := 67) C dX9_goes_67 ?_
        refine r_istore_n (pc := 68) C 2 dX9_goes_68 rfl (Nat.le_of_ble_eq_true rfl) ?_
        have L69 : ∀ (n : Nat) (i : Int), 0 ≤ i → i ≤ T 0 1 → T 0 1 < i + n → Wc K G 69 [some (.ref (b 0)), some (.int (iI (T 0 1))), some (.int (iI i))] [] (wR G b R (sClipS (sFlyS T (T 0 1)) i)) := by
          intro n
          induction n with
          | zero =>
            intro i h0 h1 hn; omega
          | succ n ih =>
            intro i h0 h1 hn 
            obtain ⟨hV, hV2, -⟩ := sClipS_p hA h0 (by rw [eA]; exact h1)
            have e2 : sClipS (sFlyS T (T 0 1)) i 0 1 = T 0 1 := by rw [hV2 0 (by decide), eA]
            refine r_iload_n (pc := 69) C 2 dX9_goes_69 rfl rfl ?_
            refine r_iload_n (pc := 70) C 1 dX9_goes_70 rfl rfl ?_
            refine r_icmp_ge (pc := 71) (tgt := 103) C dX9_goes_71 (by decide) (by first | omega | exact zand_rng _ _ | exact zor_rng _ _ | exact zxor_rng _ _ | exact BT.r (IT.b (by assumption)) _ _) (by first | omega | exact zand_rng _ _ | exact zor_rng _ _ | exact zxor_rng _ _ | exact BT.r (IT.b (by assumption)) _ _) (fun c71 => ?_) (fun c71 => ?_)
            · obtain rfl : i = T 0 1 := by omega
              show Wc K G _ _ _ (wR G b R (sD2 T))
              refine r_aload_n (pc := 103) C 0 dX9_goes_103 rfl rfl ?_
              refine r_get (pc := 104) C 0 0 1 dX9_goes_104 in_X9 rfl rfl (ci := 9) rfl (by decide) tw_742 rfl rfl ?_
              refine r_iconst (pc := 107) C dX9_goes_107 ?_
              refine r_ialoadE (pc := 108) C 2 0 dX9_goes_108 rfl rfl (by decide) (by omega) (show flat (sD2 T) 4 = T 0 4 from by rw [flat_0 _ (by decide), p2]) ?_
              refine r_iconst (pc := 109) C dX9_goes_109 ?_
              refine r_irem (pc := 110) C dX9_goes_110 (by omega) (by omega) ?_
              refine r_if_ne (pc := 111) (tgt := 118) C dX9_goes_111 (by decide) (by first | omega | exact zand_rng _ _ | exact zor_rng _ _ | exact zxor_rng _ _ | exact BT.r (IT.b (by assumption)) _ _) (fun c111 => ?_) (fun c111 => ?_)
              · refine Wc.eq (gs' := wR G b R (sD3 T)) ?_ rfl rfl rfl (by unfold sD3; first | rw [if_neg (by omega)] | rw [if_pos (by omega), p2])
                refine r_iconst (pc := 118) C dX9_goes_118 ?_
                refine r_istore_n (pc := 119) C 2 dX9_goes_119 rfl (Nat.le_of_ble_eq_true rfl) ?_
                have L120 : ∀ (n : Nat) (i : Int), 0 ≤ i → i ≤ T 0 1 → T 0 1 < i + n → Wc K G 120 [some (.ref (b 0)), some (.int (iI (T 0 1))), some (.int (iI i))] [] (wR G b R (sAgeC T i)) := by
                  intro n
                  induction n with
                  | zero =>
                    intro i h0 h1 hn; omega
                  | succ n ih =>
                    intro i h0 h1 hn 
                    obtain ⟨hX, hX2, hX3⟩ := sAgeC_p hI h0 h1
                    have eX := hX3 4 (by decide)
                    refine r_iload_n (pc := 120) C 2 dX9_goes_120 rfl rfl ?_
                    refine r_iload_n (pc := 121) C 1 dX9_goes_121 rfl rfl ?_
                    refine r_icmp_ge (pc := 122) (tgt := 167) C dX9_goes_122 (by decide) (by first | omega | exact zand_rng _ _ | exact zor_rng _ _ | exact zxor_rng _ _ | exact BT.r (IT.b (by assumption)) _ _) (by first | omega | exact zand_rng _ _ | exact zor_rng _ _ | exact zxor_rng _ _ | exact BT.r (IT.b (by assumption)) _ _) (fun c122 => ?_) (fun c122 => ?_)
                    · obtain rfl : i = T 0 1 := by omega
                      show Wc K G _ _ _ (wR G b R (sD4 T))
                      refine r_aload_n (pc := 167) C 0 dX9_goes_167 rfl rfl ?_
                      refine r_get (pc := 168) C 0 0 1 dX9_goes_168 in_X9 rfl rfl (ci := 9) rfl (by decide) tw_742 rfl rfl ?_
                      refine r_iconst (pc := 171) C dX9_goes_171 ?_
                      refine r_dup2 (pc := 172) C dX9_goes_172 rfl rfl ?_
                      refine r_ialoadE (pc := 173) C 2 0 dX9_goes_173 rfl rfl (by decide) (by omega) (show flat (sD4 T) 4 = T 0 4 from by rw [flat_0 _ (by decide), p6 4 (by decide)]) ?_
                      refine r_iconst (pc := 174) C dX9_goes_174 ?_
                      refine r_iadd (pc := 175) C dX9_goes_175 ?_
                      refine r_iastore (pc := 176) C 2 0 dX9_goes_176 rfl rfl (by decide) (by omega) rfl (R_s0 _ _ _ _ (by decide)) ?_
                      exact r_vret (pc := 177) C hQ dX9_goes_177 rfl (jst_rv rfl)
                    · have hdd := hX.d h0 (by omega)
                      refine r_aload_n (pc := 125) C 0 dX9_goes_125 rfl rfl ?_
                      refine r_get (pc := 126) C 0 0 1 dX9_goes_126 in_X9 rfl rfl (ci := 9) rfl (by decide) tw_742 rfl rfl ?_
                      refine r_iconst (pc := 129) C dX9_goes_129 ?_
                      refine r_ialoadE (pc := 130) C 2 0 dX9_goes_130 rfl rfl (by decide) (by omega) (show flat (sAgeC T i) 4 = T 0 4 from by rw [flat_0 _ (by decide), eX]) ?_
                      refine r_iconst (pc := 131) C dX9_goes_131 ?_
                      refine r_irem (pc := 132) C dX9_goes_132 (by omega) (by omega) ?_
                      refine r_if_ne (pc := 133) (tgt := 161) C dX9_goes_133 (by decide) (by first | omega | exact zand_rng _ _ | exact zor_rng _ _ | exact zxor_rng _ _ | exact BT.r (IT.b (by assumption)) _ _) (fun c133 => ?_) (fun c133 => ?_)
                      · refine r_iinc (pc := 161) C dX9_goes_161 rfl ?_
                        refine r_goto (pc := 164) (tgt := 120) C dX9_goes_164 (by decide) ?_
                        refine Wc.to (ih (i + 1) (by omega) (by omega) (by omega) ) rfl (lsub_s rfl (lsub_s rfl (lsub_s rfl lsub_0))) (by rw [sAgeC_s T h0]; first | rw [if_pos (by omega)] | rw [if_neg (by omega)])
                      · refine r_aload_n (pc := 136) C 0 dX9_goes_136 rfl rfl ?_
                        refine r_iload_n (pc := 137) C 2 dX9_goes_137 rfl rfl ?_
                        refine r_iconst (pc := 138) C dX9_goes_138 ?_
                        refine r_callV (pc := 139) (is := [0, 1, 2, 3, 4, 5, 6, 7, 8]) C YX9_get dX9_goes_139 tw_842 (c_X9_get2 l G _ _ _ _ (by first | assumption | omega | exact zand_rng _ _ | exact zor_rng _ _ | exact zxor_rng _ _ | exact BT.r (IT.b (by assumption)) _ _)) 0 0 rfl rfl (ci := 9) rfl rfl rfl (by decide) rfl rfl (Nat.le_of_ble_eq_true rfl) ⟨rfl, rfl, by decide, by decide⟩ (jst_i (R_uall ..) ?_)
                        refine r_bipush (pc := 142) C dX9_goes_142 (by decide) ?_
                        refine r_icmp_ge (pc := 144) (tgt := 161) C dX9_goes_144 (by decide) (by first | omega | exact zand_rng _ _ | exact zor_rng _ _ | exact zxor_rng _ _ | exact BT.r (IT.b (by assumption)) _ _) (by first | omega | exact zand_rng _ _ | exact zor_rng _ _ | exact zxor_rng _ _ | exact BT.r (IT.b (by assumption)) _ _) (fun c144 => ?_) (fun c144 => ?_)
                        · refine r_iinc (pc := 161) C dX9_goes_161 rfl ?_
                          refine r_goto (pc := 164) (tgt := 120) C dX9_goes_164 (by decide) ?_
                          refine Wc.to (ih (i + 1) (by omega) (by omega) (by omega) ) rfl (lsub_s rfl (lsub_s rfl (lsub_s rfl lsub_0))) (by rw [sAgeC_s T h0]; first | rw [if_pos (by omega)] | rw [if_neg (by omega)])
                        · refine r_aload_n (pc := 147) C 0 dX9_goes_147 rfl rfl ?_
                          refine r_iload_n (pc := 148) C 2 dX9_goes_148 rfl rfl ?_
                          refine r_iconst (pc := 149) C dX9_goes_149 ?_
                          refine r_aload_n (pc := 150) C 0 dX9_goes_150 rfl rfl ?_
                          refine r_iload_n (pc := 151) C 2 dX9_goes_151 rfl rfl ?_
                          refine r_iconst (pc := 152) C dX9_goes_152 ?_
                          refine r_callV (pc := 153) (is := [0, 1, 2, 3, 4, 5, 6, 7, 8]) C YX9_get dX9_goes_153 tw_842 (c_X9_get2 l G _ _ _ _ (by first | assumption | omega | exact zand_rng _ _ | exact zor_rng _ _ | exact zxor_rng _ _ | exact BT.r (IT.b (by assumption)) _ _)) 0 0 rfl rfl (ci := 9) rfl rfl rfl (by decide) rfl rfl (Nat.le_of_ble_eq_true rfl) ⟨rfl, rfl, by decide, by decide⟩ (jst_i (R_uall ..) ?_)
                          refine r_iconst (pc := 156) C dX9_goes_156 ?_
                          refine r_iadd (pc := 157) C dX9_goes_157 ?_
                          refine r_callV (pc := 158) (is := [0, 1, 2, 3, 4, 5, 6, 7, 8]) C YX9_puts dX9_goes_158 tw_893 (c_X9_puts2 l G _ _ _ _ _ (by first | assumption | omega | exact zand_rng _ _ | exact zor_rng _ _ | exact zxor_rng _ _ | exact BT.r (IT.b (by assumption)) _ _)) 0 0 rfl rfl (ci := 9) rfl rfl rfl (by decide) rfl rfl (Nat.le_of_ble_eq_true rfl) ⟨rfl, rfl, by decide, by decide⟩ (jst_v (R_uall ..) ?_)
                          refine r_iinc (pc := 161) C dX9_goes_161 rfl ?_
                          refine r_goto (pc := 164) (tgt := 120) C dX9_goes_164 (by decide) ?_
                          refine Wc.to (ih (i + 1) (by omega) (by omega) (by omega) ) rfl (lsub_s rfl (lsub_s rfl (lsub_s rfl lsub_0))) (by rw [sAgeC_s T h0]; first | rw [if_pos (by omega)] | rw [if_neg (by omega)])
                refine Wc.to (L120 ((T 0 1 - (0)).toNat + 1) (0) (by omega) (by omega) (by omega) ) rfl (lsub_s rfl (lsub_s rfl (lsub_s rfl lsub_0))) (by refine congrArg (wR G b R) ?_; unfold sAgeC; rw [show sAgeS (sD3 T) 0 = sD3 T from rfl]; split <;> rfl)
              · refine r_aload_n (pc := 114) C 0 dX9_goes_114 rfl rfl ?_
                refine r_callV (pc := 115) (is := [0, 1, 2, 3, 4, 5, 6, 7, 8]) C YX9_layEggs dX9_goes_115 tw_921 (c_X9_layEggs l G _ _ _ (by first | assumption | omega | exact zand_rng _ _ | exact zor_rng _ _ | exact zxor_rng _ _ | exact BT.r (IT.b (by assumption)) _ _)) 0 0 rfl rfl (ci := 9) rfl rfl rfl (by decide) rfl rfl (Nat.le_of_ble_eq_true rfl) ⟨rfl, rfl, by decide, by decide⟩ (jst_v (R_uall ..) ?_)
                refine Wc.eq (gs' := wR G b R (sD3 T)) ?_ rfl rfl rfl (by unfold sD3; first | rw [if_neg (by omega)] | rw [if_pos (by omega), p2])
                refine r_iconst (pc := 118) C dX9_goes_118 ?_
                refine r_istore_n (pc := 119) C 2 dX9_goes_119 rfl (Nat.le_of_ble_eq_true rfl) ?_
                have L120 : ∀ (n : Nat) (i : Int), 0 ≤ i → i ≤ T 0 1 → T 0 1 < i + n → Wc K G 120 [some (.ref (b 0)), some (.int (iI (T 0 1))), some (.int (iI i))] [] (wR G b R (sAgeC T i)) := by
                  intro n
                  induction n with
                  | zero =>
                    intro i h0 h1 hn; omega
                  | succ n ih =>
                    intro i h0 h1 hn 
                    obtain ⟨hX, hX2, hX3⟩ := sAgeC_p hI h0 h1
                    have eX := hX3 4 (by decide)
                    refine r_iload_n (pc := 120) C 2 dX9_goes_120 rfl rfl ?_
                    refine r_iload_n (pc := 121) C 1 dX9_goes_121 rfl rfl ?_
                    refine r_icmp_ge (pc := 122) (tgt := 167) C dX9_goes_122 (by decide) (by first | omega | exact zand_rng _ _ | exact zor_rng _ _ | exact zxor_rng _ _ | exact BT.r (IT.b (by assumption)) _ _) (by first | omega | exact zand_rng _ _ | exact zor_rng _ _ | exact zxor_rng _ _ | exact BT.r (IT.b (by assumption)) _ _) (fun c122 => ?_) (fun c122 => ?_)
                    · obtain rfl : i = T 0 1 := by omega
                      show Wc K G _ _ _ (wR G b R (sD4 T))
                      refine r_aload_n (pc := 167) C 0 dX9_goes_167 rfl rfl ?_
                      refine r_get (pc := 168) C 0 0 1 dX9_goes_168 in_X9 rfl rfl (ci := 9) rfl (by decide) tw_742 rfl rfl ?_
                      refine r_iconst (pc := 171) C dX9_goes_171 ?_
                      refine r_dup2 (pc := 172) C dX9_goes_172 rfl rfl ?_
                      refine r_ialoadE (pc := 173) C 2 0 dX9_goes_173 rfl rfl (by decide) (by omega) (show flat (sD4 T) 4 = T 0 4 from by rw [flat_0 _ (by decide), p6 4 (by decide)]) ?_
                      refine r_iconst (pc := 174) C dX9_goes_174 ?_
                      refine r_iadd (pc := 175) C dX9_goes_175 ?_
                      refine r_iastore (pc := 176) C 2 0 dX9_goes_176 rfl rfl (by decide) (by omega) rfl (R_s0 _ _ _ _ (by decide)) ?_
                      exact r_vret (pc := 177) C hQ dX9_goes_177 rfl (jst_rv rfl)
                    · have hdd := hX.d h0 (by omega)
                      refine r_aload_n (pc := 125) C 0 dX9_goes_125 rfl rfl ?_
                      refine r_get (pc := 126) C 0 0 1 dX9_goes_126 in_X9 rfl rfl (ci := 9) rfl (by decide) tw_742 rfl rfl ?_
                      refine r_iconst (pc := 129) C dX9_goes_129 ?_
                      refine r_ialoadE (pc := 130) C 2 0 dX9_goes_130 rfl rfl (by decide) (by omega) (show flat (sAgeC T i) 4 = T 0 4 from by rw [flat_0 _ (by decide), eX]) ?_
                      refine r_iconst (pc := 131) C dX9_goes_131 ?_
                      refine r_irem (pc := 132) C dX9_goes_132 (by omega) (by omega) ?_
                      refine r_if_ne (pc := 133) (tgt := 161) C dX9_goes_133 (by decide) (by first | omega | exact zand_rng _ _ | exact zor_rng _ _ | exact zxor_rng _ _ | exact BT.r (IT.b (by assumption)) _ _) (fun c133 => ?_) (fun c133 => ?_)
                      · refine r_iinc (pc := 161) C dX9_goes_161 rfl ?_
                        refine r_goto (pc := 164) (tgt := 120) C dX9_goes_164 (by decide) ?_
                        refine Wc.to (ih (i + 1) (by omega) (by omega) (by omega) ) rfl (lsub_s rfl (lsub_s rfl (lsub_s rfl lsub_0))) (by rw [sAgeC_s T h0]; first | rw [if_pos (by omega)] | rw [if_neg (by omega)])
                      · refine r_aload_n (pc := 136) C 0 dX9_goes_136 rfl rfl ?_
                        refine r_iload_n (pc := 137) C 2 dX9_goes_137 rfl rfl ?_
                        refine r_iconst (pc := 138) C dX9_goes_138 ?_
                        refine r_callV (pc := 139) (is := [0, 1, 2, 3, 4, 5, 6, 7, 8]) C YX9_get dX9_goes_139 tw_842 (c_X9_get2 l G _ _ _ _ (by first | assumption | omega | exact zand_rng _ _ | exact zor_rng _ _ | exact zxor_rng _ _ | exact BT.r (IT.b (by assumption)) _ _)) 0 0 rfl rfl (ci := 9) rfl rfl rfl (by decide) rfl rfl (Nat.le_of_ble_eq_true rfl) ⟨rfl, rfl, by decide, by decide⟩ (jst_i (R_uall ..) ?_)
                        refine r_bipush (pc := 142) C dX9_goes_142 (by decide) ?_
                        refine r_icmp_ge (pc := 144) (tgt := 161) C dX9_goes_144 (by decide) (by first | omega | exact zand_rng _ _ | exact zor_rng _ _ | exact zxor_rng _ _ | exact BT.r (IT.b (by assumption)) _ _) (by first | omega | exact zand_rng _ _ | exact zor_rng _ _ | exact zxor_rng _ _ | exact BT.r (IT.b (by assumption)) _ _) (fun c144 => ?_) (fun c144 => ?_)
                        · refine r_iinc (pc := 161) C dX9_goes_161 rfl ?_
                          refine r_goto (pc := 164) (tgt := 120) C dX9_goes_164 (by decide) ?_
                          refine Wc.to (ih (i + 1) (by omega) (by omega) (by omega) ) rfl (lsub_s rfl (lsub_s rfl (lsub_s rfl lsub_0))) (by rw [sAgeC_s T h0]; first | rw [if_pos (by omega)] | rw [if_neg (by omega)])
                        · refine r_aload_n (pc := 147) C 0 dX9_goes_147 rfl rfl ?_
                          refine r_iload_n (pc := 148) C 2 dX9_goes_148 rfl rfl ?_
                          refine r_iconst (pc := 149) C dX9_goes_149 ?_
                          refine r_aload_n (pc := 150) C 0 dX9_goes_150 rfl rfl ?_
                          refine r_iload_n (pc := 151) C 2 dX9_goes_151 rfl rfl ?_
                          refine r_iconst (pc := 152) C dX9_goes_152 ?_
                          refine r_callV (pc := 153) (is := [0, 1, 2, 3, 4, 5, 6, 7, 8]) C YX9_get dX9_goes_153 tw_842 (c_X9_get2 l G _ _ _ _ (by first | assumption | omega | exact zand_rng _ _ | exact zor_rng _ _ | exact zxor_rng _ _ | exact BT.r (IT.b (by assumption)) _ _)) 0 0 rfl rfl (ci := 9) rfl rfl rfl (by decide) rfl rfl (Nat.le_of_ble_eq_true rfl) ⟨rfl, rfl, by decide, by decide⟩ (jst_i (R_uall ..) ?_)
                          refine r_iconst (pc := 156) C dX9_goes_156 ?_
                          refine r_iadd (pc := 157) C dX9_goes_157 ?_
                          refine r_callV (pc := 158) (is := [0, 1, 2, 3, 4, 5, 6, 7, 8]) C YX9_puts dX9_goes_158 tw_893 (c_X9_puts2 l G _ _ _ _ _ (by first | assumption | omega | exact zand_rng _ _ | exact zor_rng _ _ | exact zxor_rng _ _ | exact BT.r (IT.b (by assumption)) _ _)) 0 0 rfl rfl (ci := 9) rfl rfl rfl (by decide) rfl rfl (Nat.le_of_ble_eq_true rfl) ⟨rfl, rfl, by decide, by decide⟩ (jst_v (R_uall ..) ?_)
                          refine r_iinc (pc := 161) C dX9_goes_161 rfl ?_
                          refine r_goto (pc := 164) (tgt := 120) C dX9_goes_164 (by decide) ?_
                          refine Wc.to (ih (i + 1) (by omega) (by omega) (by omega) ) rfl (lsub_s rfl (lsub_s rfl (lsub_s rfl lsub_0))) (by rw [sAgeC_s T h0]; first | rw [if_pos (by omega)] | rw [if_neg (by omega)])
                refine Wc.to (L120 ((T 0 1 - (0)).toNat + 1) (0) (by omega) (by omega) (by omega) ) rfl (lsub_s rfl (lsub_s rfl (lsub_s rfl lsub_0))) (by refine congrArg (wR G b R) ?_; unfold sAgeC; rw [show sAgeS (sD3 T) 0 = sD3 T from rfl]; split <;> rfl)
            · have hdd := hV.d h0 (by omega)
              refine r_aload_n (pc := 74) C 0 dX9_goes_74 rfl rfl ?_
              refine r_iload_n (pc := 75) C 2 dX9_goes_75 rfl rfl ?_
              refine r_iconst (pc := 76) C dX9_goes_76 ?_
              refine r_callV (pc := 77) (is := [0, 1, 2, 3, 4, 5, 6, 7, 8]) C YX9_get dX9_goes_77 tw_842 (c_X9_get4 l G _ _ _ _ (by first | assumption | omega | exact zand_rng _ _ | exact zor_rng _ _ | exact zxor_rng _ _ | exact BT.r (IT.b (by assumption)) _ _)) 0 0 rfl rfl (ci := 9) rfl rfl rfl (by decide) rfl rfl (Nat.le_of_ble_eq_true rfl) ⟨rfl, rfl, by decide, by decide⟩ (jst_i (R_uall ..) ?_)
              refine r_if_le (pc := 80) (tgt := 97) C dX9_goes_80 (by decide) (by first | omega | exact zand_rng _ _ | exact zor_rng _ _ | exact zxor_rng _ _ | exact BT.r (IT.b (by assumption)) _ _) (fun c80 => ?_) (fun c80 => ?_)
              · refine r_iinc (pc := 97) C dX9_goes_97 rfl ?_
                refine r_goto (pc := 100) (tgt := 69) C dX9_goes_100 (by decide) ?_
                refine Wc.to (ih (i + 1) (by omega) (by omega) (by omega) ) rfl (lsub_s rfl (lsub_s rfl (lsub_s rfl lsub_0))) (by rw [sClipS_s _ h0]; first | rw [if_pos (by omega)] | rw [if_neg (by omega)])
              · refine r_aload_n (pc := 83) C 0 dX9_goes_83 rfl rfl ?_
                refine r_iload_n (pc := 84) C 2 dX9_goes_84 rfl rfl ?_
                refine r_iconst (pc := 85) C dX9_goes_85 ?_
                refine r_aload_n (pc := 86) C 0 dX9_goes_86 rfl rfl ?_
                refine r_iload_n (pc := 87) C 2 dX9_goes_87 rfl rfl ?_
                refine r_iconst (pc := 88) C dX9_goes_88 ?_
                refine r_callV (pc := 89) (is := [0, 1, 2, 3, 4, 5, 6, 7, 8]) C YX9_get dX9_goes_89 tw_842 (c_X9_get4 l G _ _ _ _ (by first | assumption | omega | exact zand_rng _ _ | exact zor_rng _ _ | exact zxor_rng _ _ | exact BT.r (IT.b (by assumption)) _ _)) 0 0 rfl rfl (ci := 9) rfl rfl rfl (by decide) rfl rfl (Nat.le_of_ble_eq_true rfl) ⟨rfl, rfl, by decide, by decide⟩ (jst_i (R_uall ..) ?_)
                refine r_iconst (pc := 92) C dX9_goes_92 ?_
                refine r_isub (pc := 93) C dX9_goes_93 ?_
                refine r_callV (pc := 94) (is := [0, 1, 2, 3, 4, 5, 6, 7, 8]) C YX9_puts dX9_goes_94 tw_893 (c_X9_puts4 l G _ _ _ _ _ (by first | assumption | omega | exact zand_rng _ _ | exact zor_rng _ _ | exact zxor_rng _ _ | exact BT.r (IT.b (by assumption)) _ _)) 0 0 rfl rfl (ci := 9) rfl rfl rfl (by decide) rfl rfl (Nat.le_of_ble_eq_true rfl) ⟨rfl, rfl, by decide, by decide⟩ (jst_v (R_uall ..) ?_)
                refine r_iinc (pc := 97) C dX9_goes_97 rfl ?_
                refine r_goto (pc := 100) (tgt := 69) C dX9_goes_100 (by decide) ?_
                refine Wc.to (ih (i + 1) (by omega) (by omega) (by omega) ) rfl (lsub_s rfl (lsub_s rfl (lsub_s rfl lsub_0))) (by rw [sClipS_s _ h0]; first | rw [if_pos (by omega)] | rw [if_neg (by omega)])
        refine Wc.to (L69 ((T 0 1 - (0)).toNat + 1) (0) (by omega) (by omega) (by omega) ) rfl (lsub_s rfl (lsub_s rfl (lsub_s rfl lsub_0))) (by rfl)
      · have hdd := hU.d h0 (by omega)
        refine r_aload_n (pc := 14) C 0 dX9_goes_14 rfl rfl ?_
        refine r_iload_n (pc := 15) C 2 dX9_goes_15 rfl rfl ?_
        refine r_callV (pc := 16) (is := [0, 1, 2, 3, 4, 5, 6, 7, 8]) C YX9_isLost dX9_goes_16 tw_854 (c_X9_isLost l G _ _ _ _ (by first | assumption | omega | exact zand_rng _ _ | exact zor_rng _ _ | exact zxor_rng _ _ | exact BT.r (IT.b (by assumption)) _ _) (by first | assumption | omega | exact zand_rng _ _ | exact zor_rng _ _ | exact zxor_rng _ _ | exact BT.r (IT.b (by assumption)) _ _)) 0 0 rfl rfl (ci := 9) rfl rfl rfl (by decide) rfl rfl (Nat.le_of_ble_eq_true rfl) ⟨rfl, rfl, by decide, by decide⟩ (jst_i (R_uall ..) ?_)
        refine r_ifb_ne (pc := 19) (tgt := 61) C dX9_goes_19 (by decide) (fun c19 => ?_) (fun c19 => ?_)
        · refine r_iinc (pc := 61) C dX9_goes_61 rfl ?_
          refine r_goto (pc := 64) (tgt := 9) C dX9_goes_64 (by decide) ?_
          refine Wc.to (ih (i + 1) (by omega) (by omega) (by omega) ) rfl (lsub_s rfl (lsub_s rfl (lsub_s rfl lsub_0))) (by (try rw [zand_1] at c47); rw [sFlyS_s T h0]; first | rw [if_pos (by unfold zbit; omega)] | rw [if_neg (by unfold zbit; omega)])
        · refine r_aload_n (pc := 22) C 0 dX9_goes_22 rfl rfl ?_
          refine r_iload_n (pc := 23) C 2 dX9_goes_23 rfl rfl ?_
          refine r_iconst (pc := 24) C dX9_goes_24 ?_
          refine r_callV (pc := 25) (is := [0, 1, 2, 3, 4, 5, 6, 7, 8]) C YX9_get dX9_goes_25 tw_842 (c_X9_get4 l G _ _ _ _ (by first | assumption | omega | exact zand_rng _ _ | exact zor_rng _ _ | exact zxor_rng _ _ | exact BT.r (IT.b (by assumption)) _ _)) 0 0 rfl rfl (ci := 9) rfl rfl rfl (by decide) rfl rfl (Nat.le_of_ble_eq_true rfl) ⟨rfl, rfl, by decide, by decide⟩ (jst_i (R_uall ..) ?_)
          refine r_if_ne (pc := 28) (tgt := 61) C dX9_goes_28 (by decide) (by first | omega | exact zand_rng _ _ | exact zor_rng _ _ | exact zxor_rng _ _ | exact BT.r (IT.b (by assumption)) _ _) (fun c28 => ?_) (fun c28 => ?_)
          · refine r_iinc (pc := 61) C dX9_goes_61 rfl ?_
            refine r_goto (pc := 64) (tgt := 9) C dX9_goes_64 (by decide) ?_
            refine Wc.to (ih (i + 1) (by omega) (by omega) (by omega) ) rfl (lsub_s rfl (lsub_s rfl (lsub_s rfl lsub_0))) (by (try rw [zand_1] at c47); rw [sFlyS_s T h0]; first | rw [if_pos (by unfold zbit; omega)] | rw [if_neg (by unfold zbit; omega)])
          · refine r_aload_n (pc := 31) C 0 dX9_goes_31 rfl rfl ?_
            refine r_get (pc := 32) C 0 0 1 dX9_goes_32 in_X9 rfl rfl (ci := 9) rfl (by decide) tw_742 rfl rfl ?_
            refine r_iconst (pc := 35) C dX9_goes_35 ?_
            refine r_ialoadE (pc := 36) C 2 0 dX9_goes_36 rfl rfl (by decide) (by omega) (flat_0 _ (by decide)) ?_
            refine r_aload_n (pc := 37) C 0 dX9_goes_37 rfl rfl ?_
            refine r_iload_n (pc := 38) C 2 dX9_goes_38 rfl rfl ?_
            refine r_iconst (pc := 39) C dX9_goes_39 ?_
            refine r_callV (pc := 40) (is := [0, 1, 2, 3, 4, 5, 6, 7, 8]) C YX9_get dX9_goes_40 tw_842 (c_X9_get3 l G _ _ _ _ (by first | assumption | omega | exact zand_rng _ _ | exact zor_rng _ _ | exact zxor_rng _ _ | exact BT.r (IT.b (by assumption)) _ _)) 0 0 rfl rfl (ci := 9) rfl rfl rfl (by decide) rfl rfl (Nat.le_of_ble_eq_true rfl) ⟨rfl, rfl, by decide, by decide⟩ (jst_i (R_uall ..) ?_)
            refine r_ishr (pc := 43) C dX9_goes_43 (by first | omega | exact zand_rng _ _ | exact zor_rng _ _ | exact zxor_rng _ _ | exact BT.r (IT.b (by assumption)) _ _) (by omega) ?_
            refine r_iconst (pc := 44) C dX9_goes_44 ?_
            refine r_iand (pc := 45) C dX9_goes_45 ?_
            refine r_iconst (pc := 46) C dX9_goes_46 ?_
            refine r_icmp_ne (pc := 47) (tgt := 61) C dX9_goes_47 (by decide) (by first | omega | exact zand_rng _ _ | exact zor_rng _ _ | exact zxor_rng _ _ | exact BT.r (IT.b (by assumption)) _ _) (by first | omega | exact zand_rng _ _ | exact zor_rng _ _ | exact zxor_rng _ _ | exact BT.r (IT.b (by assumption)) _ _) (fun c47 => ?_) (fun c47 => ?_)
            · refine r_iinc (pc := 61) C dX9_goes_61 rfl ?_
              refine r_goto (pc := 64) (tgt := 9) C dX9_goes_64 (by decide) ?_
              refine Wc.to (ih (i + 1) (by omega) (by omega) (by omega) ) rfl (lsub_s rfl (lsub_s rfl (lsub_s rfl lsub_0))) (by (try rw [zand_1] at c47); rw [sFlyS_s T h0]; first | rw [if_pos (by unfold zbit; omega)] | rw [if_neg (by unfold zbit; omega)])
            · refine r_aload_n (pc := 50) C 0 dX9_goes_50 rfl rfl ?_
              refine r_iload_n (pc := 51) C 2 dX9_goes_51 rfl rfl ?_
              refine r_aload_n (pc := 52) C 0 dX9_goes_52 rfl rfl ?_
              refine r_get (pc := 53) C 0 0 1 dX9_goes_53 in_X9 rfl rfl (ci := 9) rfl (by decide) tw_742 rfl rfl ?_
              refine r_iconst (pc := 56) C dX9_goes_56 ?_
              refine r_ialoadE (pc := 57) C 2 0 dX9_goes_57 rfl rfl (by decide) (by omega) (flat_0 _ (by decide)) ?_
              refine r_callV (pc := 58) (is := [0, 1, 2, 3, 4, 5, 6, 7, 8]) C YX9_goesHome dX9_goes_58 tw_905 (c_X9_goesHome l G _ _ _ _ _ (by first | assumption | omega | exact zand_rng _ _ | exact zor_rng _ _ | exact zxor_rng _ _ | exact BT.r (IT.b (by assumption)) _ _) (by first | assumption | omega | exact zand_rng _ _ | exact zor_rng _ _ | exact zxor_rng _ _ | exact BT.r (IT.b (by assumption)) _ _) (by first | assumption | omega | exact zand_rng _ _ | exact zor_rng _ _ | exact zxor_rng _ _ | exact BT.r (IT.b (by assumption)) _ _)) 0 0 rfl rfl (ci := 9) rfl rfl rfl (by decide) rfl rfl (Nat.le_of_ble_eq_true rfl) ⟨rfl, rfl, by decide, by decide⟩ (jst_v (R_uall ..) ?_)
              refine r_iinc (pc := 61) C dX9_goes_61 rfl ?_
              refine r_goto (pc := 64) (tgt := 9) C dX9_goes_64 (by decide) ?_
              refine Wc.to (ih (i + 1) (by omega) (by omega) (by omega) ) rfl (lsub_s rfl (lsub_s rfl (lsub_s rfl lsub_0))) (by (try rw [zand_1] at c47); rw [sFlyS_s T h0]; first | rw [if_pos (by unfold zbit; omega)] | rw [if_neg (by unfold zbit; omega)])
  refine Wc.to (L9 ((T 0 1 - (0)).toNat + 1) (0) (by omega) (by omega) (by omega) ) rfl (lsub_s rfl (lsub_s rfl (lsub_s rfl lsub_0))) (by rfl)

set_option maxRecDepth 100000 in
set_option maxHeartbeats 4000000 in
theorem c_X9_goesFor (l : Launch) (G : GT) (b : Nat → Nat) (R T : Tn) (m : Int) (hI : IT T) (hm : 0 ≤ m) (hk : T 0 4 + m ≤ 1100) : Cn l yX9_goesFor cX9_goesFor 3 none ({ frames := 6, cells := 0, slots := 0, locals := 134 }) G [.ref (b 0), .int (iI m)] (wR G b R T) (jst none (wR G b R (sDusks T m))) := by
  refine Cn_in RX9 [some (.ref (b 0)), some (.int (iI m)), none] (by decide +kernel) rfl rfl rfl (Nat.le_of_ble_eq_true rfl) (fun K C hQ => ?_)
  have hBB := hI.b
  have hLL := hI.L
  have hDD := hI.D
  have hkk := hI.k
  refine r_iconst (pc := 0) C dX9_goesFor_0 ?_
  refine r_istore_n (pc := 1) C 2 dX9_goesFor_1 rfl (Nat.le_of_ble_eq_true rfl) ?_
  have L2 : ∀ (n : Nat) (i : Int), 0 ≤ i → i ≤ m → m < i + n → Wc K G 2 [some (.ref (b 0)), some (.int (iI m)), some (.int (iI i))] [] (wR G b R (sDusks T i)) := by
    intro n
    induction n with
    | zero =>
      intro i h0 h1 hn; omega
    | succ n ih =>
      intro i h0 h1 hn 
      obtain ⟨hU, -, -, -, -, hU4, -⟩ := sDusks_p hI h0 (by omega)
      refine r_iload_n (pc := 2) C 2 dX9_goesFor_2 rfl rfl ?_
      refine r_iload_n (pc := 3) C 1 dX9_goesFor_3 rfl rfl ?_
      refine r_icmp_ge (pc := 4) (tgt := 17) C dX9_goesFor_4 (by decide) (by first | omega | exact zand_rng _ _ | exact zor_rng _ _ | exact zxor_rng _ _ | exact BT.r (IT.b (by assumption)) _ _) (by first | omega | exact zand_rng _ _ | exact zor_rng _ _ | exact zxor_rng _ _ | exact BT.r (IT.b (by assumption)) _ _) (fun c4 => ?_) (fun c4 => ?_)
      · obtain rfl : m = i := by omega
        exact r_vret (pc := 17) C hQ dX9_goesFor_17 rfl (jst_rv rfl)
      · refine r_aload_n (pc := 7) C 0 dX9_goesFor_7 rfl rfl ?_
        refine r_callV (pc := 8) (is := [0, 1, 2, 3, 4, 5, 6, 7, 8]) C YX9_goes dX9_goesFor_8 tw_917 (c_X9_goes l G _ _ _ (by first | assumption | omega | exact zand_rng _ _ | exact zor_rng _ _ | exact zxor_rng _ _ | exact BT.r (IT.b (by assumption)) _ _) (by first | assumption | omega | exact zand_rng _ _ | exact zor_rng _ _ | exact zxor_rng _ _ | exact BT.r (IT.b (by assumption)) _ _)) 0 0 rfl rfl (ci := 9) rfl rfl rfl (by decide) rfl rfl (Nat.le_of_ble_eq_true rfl) ⟨rfl, rfl, by decide, by decide⟩ (jst_v (R_uall ..) ?_)
        refine r_iinc (pc := 11) C dX9_goesFor_11 rfl ?_
        refine r_goto (pc := 14) (tgt := 2) C dX9_goesFor_14 (by decide) ?_
        refine Wc.to (ih (i + 1) (by omega) (by omega) (by omega) ) rfl (lsub_s rfl (lsub_s rfl (lsub_s rfl lsub_0))) (by rw [sDusks_s T h0])
  refine Wc.to (L2 ((m - (0)).toNat + 1) (0) (by omega) (by omega) (by omega) ) rfl (lsub_s rfl (lsub_s rfl (lsub_s rfl lsub_0))) (by rfl)

