/-- FINE, or the refusal of a number out of its range -/
def sOut (v lo hi : Int) : Int := if v < lo then -4 else if hi < v then -6 else 0
set_option maxRecDepth 100000 in
set_option maxHeartbeats 4000000 in
theorem c_X9_isIn (l : Launch) (G : GT) (v n : Int) (hv : -2147483648 ≤ v ∧ v < 2147483648) (hn : -2147483648 ≤ n ∧ n < 2147483648) : Cn l yX9_isIn cX9_isIn 2 (Option.some .boolean) ({ frames := 0, cells := 0, slots := 0, locals := 0 }) G [.int (iI v), .int (iI n)] (w0) (jst (some (.int (iI (zb (0 ≤ v ∧ v < n))))) (w0)) := by
  refine Cn_in RX9 [some (.int (iI v)), some (.int (iI n))] (by decide +kernel) rfl rfl rfl (Nat.le_of_ble_eq_true rfl) (fun K C hQ => ?_)
  refine r_iload_n (pc := 0) C 0 dX9_isIn_0 rfl rfl ?_
  refine r_if_lt (pc := 1) (tgt := 13) C dX9_isIn_1 (by decide) (by first | omega | exact BT.r (by assumption) _ _) (fun c1 => ?_) (fun c1 => ?_)
  · refine r_iconst (pc := 13) C dX9_isIn_13 ?_
    exact r_zret (pc := 14) C hQ dX9_isIn_14 (by decide) rfl (jst_ri (by first | rw [zb_t (by omega)] | rw [zb_f (by omega)]) rfl)
  · refine r_iload_n (pc := 4) C 0 dX9_isIn_4 rfl rfl ?_
    refine r_iload_n (pc := 5) C 1 dX9_isIn_5 rfl rfl ?_
    refine r_icmp_ge (pc := 6) (tgt := 13) C dX9_isIn_6 (by decide) (by first | omega | exact BT.r (by assumption) _ _) (by first | omega | exact BT.r (by assumption) _ _) (fun c6 => ?_) (fun c6 => ?_)
    · refine r_iconst (pc := 13) C dX9_isIn_13 ?_
      exact r_zret (pc := 14) C hQ dX9_isIn_14 (by decide) rfl (jst_ri (by first | rw [zb_t (by omega)] | rw [zb_f (by omega)]) rfl)
    · refine r_iconst (pc := 9) C dX9_isIn_9 ?_
      refine r_goto (pc := 10) (tgt := 14) C dX9_isIn_10 (by decide) ?_
      exact r_zret (pc := 14) C hQ dX9_isIn_14 (by decide) rfl (jst_ri (by first | rw [zb_t (by omega)] | rw [zb_f (by omega)]) rfl)

set_option maxRecDepth 100000 in
set_option maxHeartbeats 4000000 in
theorem c_X9_within (l : Launch) (G : GT) (v lo hi : Int) (hv : -2147483648 ≤ v ∧ v < 2147483648) (hl : -2147483648 ≤ lo ∧ lo < 2147483648) (hh : -2147483648 ≤ hi ∧ hi < 2147483648) : Cn l yX9_within cX9_within 3 (Option.some .int) ({ frames := 0, cells := 0, slots := 0, locals := 0 }) G [.int (iI v), .int (iI lo), .int (iI hi)] (w0) (jst (some (.int (iI (sOut v lo hi)))) (w0)) := by
  refine Cn_in RX9 [some (.int (iI v)), some (.int (iI lo)), some (.int (iI hi))] (by decide +kernel) rfl rfl rfl (Nat.le_of_ble_eq_true rfl) (fun K C hQ => ?_)
  refine r_iload_n (pc := 0) C 0 dX9_within_0 rfl rfl ?_
  refine r_iload_n (pc := 1) C 1 dX9_within_1 rfl rfl ?_
  refine r_icmp_ge (pc := 2) (tgt := 10) C dX9_within_2 (by decide) (by first | omega | exact BT.r (by assumption) _ _) (by first | omega | exact BT.r (by assumption) _ _) (fun c2 => ?_) (fun c2 => ?_)
  · refine r_iload_n (pc := 10) C 0 dX9_within_10 rfl rfl ?_
    refine r_iload_n (pc := 11) C 2 dX9_within_11 rfl rfl ?_
    refine r_icmp_le (pc := 12) (tgt := 20) C dX9_within_12 (by decide) (by first | omega | exact BT.r (by assumption) _ _) (by first | omega | exact BT.r (by assumption) _ _) (fun c12 => ?_) (fun c12 => ?_)
    · refine r_iconst (pc := 20) C dX9_within_20 ?_
      exact r_iret (pc := 21) C hQ dX9_within_21 rfl (jst_ri (by rw [sOut]; split <;> first | omega | (split <;> omega)) rfl)
    · refine r_bipush (pc := 15) C dX9_within_15 (by decide) ?_
      refine r_goto (pc := 17) (tgt := 21) C dX9_within_17 (by decide) ?_
      exact r_iret (pc := 21) C hQ dX9_within_21 rfl (jst_ri (by rw [sOut]; split <;> first | omega | (split <;> omega)) rfl)
  · refine r_bipush (pc := 5) C dX9_within_5 (by decide) ?_
    refine r_goto (pc := 7) (tgt := 21) C dX9_within_7 (by decide) ?_
    exact r_iret (pc := 21) C hQ dX9_within_21 rfl (jst_ri (by rw [sOut]; split <;> first | omega | (split <;> omega)) rfl)

set_option maxRecDepth 100000 in
set_option maxHeartbeats 4000000 in
theorem c_X9_amount (l : Launch) (G : GT) (v : Int) (hv : -2147483648 ≤ v ∧ v < 2147483648) : Cn l yX9_amount cX9_amount 1 (Option.some .int) ({ frames := 0, cells := 0, slots := 0, locals := 0 }) G [.int (iI v)] (w0) (jst (some (.int (iI (zabs v)))) (w0)) := by
  refine Cn_in RX9 [some (.int (iI v))] (by decide +kernel) rfl rfl rfl (Nat.le_of_ble_eq_true rfl) (fun K C hQ => ?_)
  refine r_iload_n (pc := 0) C 0 dX9_amount_0 rfl rfl ?_
  refine r_if_ge (pc := 1) (tgt := 9) C dX9_amount_1 (by decide) (by first | omega | exact BT.r (by assumption) _ _) (fun c1 => ?_) (fun c1 => ?_)
  · refine r_iload_n (pc := 9) C 0 dX9_amount_9 rfl rfl ?_
    exact r_iret (pc := 10) C hQ dX9_amount_10 rfl (jst_ri (by rw [zabs]; split <;> omega) rfl)
  · refine r_iload_n (pc := 4) C 0 dX9_amount_4 rfl rfl ?_
    refine r_ineg (pc := 5) C dX9_amount_5 ?_
    refine r_goto (pc := 6) (tgt := 10) C dX9_amount_6 (by decide) ?_
    exact r_iret (pc := 10) C hQ dX9_amount_10 rfl (jst_ri (by rw [zabs]; split <;> omega) rfl)

set_option maxRecDepth 100000 in
set_option maxHeartbeats 4000000 in
theorem c_X8_outside (l : Launch) (G : GT) (v lo hi : Int) (hv : -2147483648 ≤ v ∧ v < 2147483648) (hl : -2147483648 ≤ lo ∧ lo < 2147483648) (hh : -2147483648 ≤ hi ∧ hi < 2147483648) : Cn l yX8_outside cX8_outside 3 (Option.some .int) ({ frames := 0, cells := 0, slots := 0, locals := 0 }) G [.int (iI v), .int (iI lo), .int (iI hi)] (w0) (jst (some (.int (iI (sOut v lo hi)))) (w0)) := by
  refine Cn_in RX8 [some (.int (iI v)), some (.int (iI lo)), some (.int (iI hi))] (by decide +kernel) rfl rfl rfl (Nat.le_of_ble_eq_true rfl) (fun K C hQ => ?_)
  refine r_iload_n (pc := 0) C 0 dX8_outside_0 rfl rfl ?_
  refine r_iload_n (pc := 1) C 1 dX8_outside_1 rfl rfl ?_
  refine r_icmp_ge (pc := 2) (tgt := 8) C dX8_outside_2 (by decide) (by first | omega | exact BT.r (by assumption) _ _) (by first | omega | exact BT.r (by assumption) _ _) (fun c2 => ?_) (fun c2 => ?_)
  · refine r_iload_n (pc := 8) C 0 dX8_outside_8 rfl rfl ?_
    refine r_iload_n (pc := 9) C 2 dX8_outside_9 rfl rfl ?_
    refine r_icmp_le (pc := 10) (tgt := 18) C dX8_outside_10 (by decide) (by first | omega | exact BT.r (by assumption) _ _) (by first | omega | exact BT.r (by assumption) _ _) (fun c10 => ?_) (fun c10 => ?_)
    · refine r_iconst (pc := 18) C dX8_outside_18 ?_
      exact r_iret (pc := 19) C hQ dX8_outside_19 rfl (jst_ri (by rw [sOut]; split <;> first | omega | (split <;> omega)) rfl)
    · refine r_bipush (pc := 13) C dX8_outside_13 (by decide) ?_
      refine r_goto (pc := 15) (tgt := 19) C dX8_outside_15 (by decide) ?_
      exact r_iret (pc := 19) C hQ dX8_outside_19 rfl (jst_ri (by rw [sOut]; split <;> first | omega | (split <;> omega)) rfl)
  · refine r_bipush (pc := 5) C dX8_outside_5 (by decide) ?_
    exact r_iret (pc := 7) C hQ dX8_outside_7 rfl (jst_ri (by rw [sOut]; split <;> first | omega | (split <;> omega)) rfl)

set_option maxRecDepth 100000 in
set_option maxHeartbeats 4000000 in
theorem c_X8_isIn (l : Launch) (G : GT) (s d : Int) (hs : -2147483648 ≤ s ∧ s < 2147483648) (hd : 0 ≤ d ∧ d < 32) : Cn l yX8_isIn cX8_isIn 2 (Option.some .boolean) ({ frames := 0, cells := 0, slots := 0, locals := 0 }) G [.int (iI s), .int (iI d)] (w0) (jst (some (.int (iI (zb (zbit s d = 1))))) (w0)) := by
  refine Cn_in RX8 [some (.int (iI s)), some (.int (iI d))] (by decide +kernel) rfl rfl rfl (Nat.le_of_ble_eq_true rfl) (fun K C hQ => ?_)
  refine r_iload_n (pc := 0) C 0 dX8_isIn_0 rfl rfl ?_
  refine r_iload_n (pc := 1) C 1 dX8_isIn_1 rfl rfl ?_
  refine r_ishr (pc := 2) C dX8_isIn_2 (by first | omega | exact zand_rng _ _) (by omega) ?_
  refine r_iconst (pc := 3) C dX8_isIn_3 ?_
  refine r_iand (pc := 4) C dX8_isIn_4 ?_
  refine r_iconst (pc := 5) C dX8_isIn_5 ?_
  refine r_icmp_ne (pc := 6) (tgt := 13) C dX8_isIn_6 (by decide) (by first | omega | exact zand_rng _ _) (by first | omega | exact zand_rng _ _) (fun c6 => ?_) (fun c6 => ?_)
  · refine r_iconst (pc := 13) C dX8_isIn_13 ?_
    exact r_zret (pc := 14) C hQ dX8_isIn_14 (by decide) rfl (jst_ri (by first | rw [zb_t (by first | assumption | (rw [zand_1] at *; assumption))] | rw [zb_f (by first | assumption | (rw [zand_1] at *; assumption))]) rfl)
  · refine r_iconst (pc := 9) C dX8_isIn_9 ?_
    refine r_goto (pc := 10) (tgt := 14) C dX8_isIn_10 (by decide) ?_
    exact r_zret (pc := 14) C hQ dX8_isIn_14 (by decide) rfl (jst_ri (by first | rw [zb_t (by first | assumption | (rw [zand_1] at *; assumption))] | rw [zb_f (by first | assumption | (rw [zand_1] at *; assumption))]) rfl)

