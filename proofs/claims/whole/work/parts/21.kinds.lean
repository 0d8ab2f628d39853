theorem ups_nil (gs : List va_W) : ups gs [] w0 = gs := rfl
/-! the class's own towns -/
def sNw (T : Tn) (f i : Int) : Int := if sNear T f i = 9 then 19 else sWay T f (sNear T f i)
theorem sNw_or (T : Tn) (f i : Int) : (sNear T f i = 9 ∧ sNw T f i = 19) ∨ (sNear T f i ≠ 9 ∧ sNw T f i = sWay T f (sNear T f i)) := by
  unfold sNw
  split
  · exact Or.inl ⟨by assumption, rfl⟩
  · exact Or.inr ⟨by assumption, rfl⟩
theorem sNw_y {T : Tn} {f i : Int} (h0 : 0 ≤ i) (h6 : i < 6) (h : i ≠ f ∧ (sNear T f i = 9 ∨ sWay T f i < sWay T f (sNear T f i))) : sNw T f (i + 1) = sWay T f i := by
  unfold sNw
  rw [sNear_s T f h0, if_pos h, if_neg (by omega)]
theorem sNw_n {T : Tn} {f i : Int} (h0 : 0 ≤ i) (h : ¬ (i ≠ f ∧ (sNear T f i = 9 ∨ sWay T f i < sWay T f (sNear T f i)))) : sNw T f (i + 1) = sNw T f i := by
  unfold sNw
  rw [sNear_s T f h0, if_neg h]
set_option maxRecDepth 100000 in
set_option maxHeartbeats 4000000 in
theorem c_X6_hasLoft (l : Launch) (G : GT) (h : Nat → Nat) (T : Tn) (z : Int) (hI : IT T) (hz : -2147483648 ≤ z ∧ z < 2147483648) : Cn l yX6_hasLoft cX6_hasLoft 2 (Option.some .boolean) ({ frames := 0, cells := 0, slots := 0, locals := 0 }) G [.ref (h 0), .int (iI z)] (wT G h T) (jst (some (.int (iI (zb (0 ≤ z ∧ z < T 0 0))))) (wT G h T)) := by
  refine Cn_in RX6 [some (.ref (h 0)), some (.int (iI z))] (by decide +kernel) rfl rfl rfl (Nat.le_of_ble_eq_true rfl) (fun K C hQ => ?_)
  have hL := hI.L
  refine r_iload_n (pc := 0) C 1 dX6_hasLoft_0 rfl rfl ?_
  refine r_if_lt (pc := 1) (tgt := 16) C dX6_hasLoft_1 (by decide) (by first | omega | exact zand_rng _ _ | exact zor_rng _ _ | exact zxor_rng _ _ | exact BT.r (IT.b (by assumption)) _ _) (fun c1 => ?_) (fun c1 => ?_)
  · refine r_iconst (pc := 16) C dX6_hasLoft_16 ?_
    exact r_zret (pc := 17) C hQ dX6_hasLoft_17 (by decide) rfl (jst_ri (by exact (zb_f (by omega)).symm) rfl)
  · refine r_iload_n (pc := 4) C 1 dX6_hasLoft_4 rfl rfl ?_
    refine r_aload_n (pc := 5) C 0 dX6_hasLoft_5 rfl rfl ?_
    refine r_get (pc := 6) C 0 0 8 dX6_hasLoft_6 in_X6 rfl rfl (ci := 6) rfl (by decide) tw_91 rfl rfl ?_
    refine r_icmp_ge (pc := 9) (tgt := 16) C dX6_hasLoft_9 (by decide) (by first | omega | exact zand_rng _ _ | exact zor_rng _ _ | exact zxor_rng _ _ | exact BT.r (IT.b (by assumption)) _ _) (by first | omega | exact zand_rng _ _ | exact zor_rng _ _ | exact zxor_rng _ _ | exact BT.r (IT.b (by assumption)) _ _) (fun c9 => ?_) (fun c9 => ?_)
    · refine r_iconst (pc := 16) C dX6_hasLoft_16 ?_
      exact r_zret (pc := 17) C hQ dX6_hasLoft_17 (by decide) rfl (jst_ri (by exact (zb_f (by omega)).symm) rfl)
    · refine r_iconst (pc := 12) C dX6_hasLoft_12 ?_
      refine r_goto (pc := 13) (tgt := 17) C dX6_hasLoft_13 (by decide) ?_
      exact r_zret (pc := 17) C hQ dX6_hasLoft_17 (by decide) rfl (jst_ri (by exact (zb_t (by omega)).symm) rfl)

set_option maxRecDepth 100000 in
set_option maxHeartbeats 4000000 in
theorem c_X6_hasDove (l : Launch) (G : GT) (h : Nat → Nat) (T : Tn) (z : Int) (hI : IT T) (hz : -2147483648 ≤ z ∧ z < 2147483648) : Cn l yX6_hasDove cX6_hasDove 2 (Option.some .boolean) ({ frames := 0, cells := 0, slots := 0, locals := 0 }) G [.ref (h 0), .int (iI z)] (wT G h T) (jst (some (.int (iI (zb (0 ≤ z ∧ z < T 0 1))))) (wT G h T)) := by
  refine Cn_in RX6 [some (.ref (h 0)), some (.int (iI z))] (by decide +kernel) rfl rfl rfl (Nat.le_of_ble_eq_true rfl) (fun K C hQ => ?_)
  have hD := hI.D
  refine r_iload_n (pc := 0) C 1 dX6_hasDove_0 rfl rfl ?_
  refine r_if_lt (pc := 1) (tgt := 16) C dX6_hasDove_1 (by decide) (by first | omega | exact zand_rng _ _ | exact zor_rng _ _ | exact zxor_rng _ _ | exact BT.r (IT.b (by assumption)) _ _) (fun c1 => ?_) (fun c1 => ?_)
  · refine r_iconst (pc := 16) C dX6_hasDove_16 ?_
    exact r_zret (pc := 17) C hQ dX6_hasDove_17 (by decide) rfl (jst_ri (by exact (zb_f (by omega)).symm) rfl)
  · refine r_iload_n (pc := 4) C 1 dX6_hasDove_4 rfl rfl ?_
    refine r_aload_n (pc := 5) C 0 dX6_hasDove_5 rfl rfl ?_
    refine r_get (pc := 6) C 0 0 9 dX6_hasDove_6 in_X6 rfl rfl (ci := 6) rfl (by decide) tw_93 rfl rfl ?_
    refine r_icmp_ge (pc := 9) (tgt := 16) C dX6_hasDove_9 (by decide) (by first | omega | exact zand_rng _ _ | exact zor_rng _ _ | exact zxor_rng _ _ | exact BT.r (IT.b (by assumption)) _ _) (by first | omega | exact zand_rng _ _ | exact zor_rng _ _ | exact zxor_rng _ _ | exact BT.r (IT.b (by assumption)) _ _) (fun c9 => ?_) (fun c9 => ?_)
    · refine r_iconst (pc := 16) C dX6_hasDove_16 ?_
      exact r_zret (pc := 17) C hQ dX6_hasDove_17 (by decide) rfl (jst_ri (by exact (zb_f (by omega)).symm) rfl)
    · refine r_iconst (pc := 12) C dX6_hasDove_12 ?_
      refine r_goto (pc := 13) (tgt := 17) C dX6_hasDove_13 (by decide) ?_
      exact r_zret (pc := 17) C hQ dX6_hasDove_17 (by decide) rfl (jst_ri (by exact (zb_t (by omega)).symm) rfl)

set_option maxRecDepth 100000 in
set_option maxHeartbeats 4000000 in
theorem c_X6_isLost (l : Launch) (G : GT) (h : Nat → Nat) (T : Tn) (d : Int) (hI : IT T) (hd : 0 ≤ d ∧ d < T 0 1) : Cn l yX6_isLost cX6_isLost 2 (Option.some .boolean) ({ frames := 1, cells := 0, slots := 0, locals := 21 }) G [.ref (h 0), .int (iI d)] (wT G h T) (jst (some (.int (iI (zb (T 6 d = 9))))) (wT G h T)) := by
  refine Cn_in RX6 [some (.ref (h 0)), some (.int (iI d))] (by decide +kernel) rfl rfl rfl (Nat.le_of_ble_eq_true rfl) (fun K C hQ => ?_)
  have hBB := hI.b
  have hLL := hI.L
  have hDD := hI.D
  have hdd := hI.d hd.1 hd.2
  refine r_aload_n (pc := 0) C 0 dX6_isLost_0 rfl rfl ?_
  refine r_iload_n (pc := 1) C 1 dX6_isLost_1 rfl rfl ?_
  refine r_callV (pc := 2) (is := [0]) C YX6_hasDove dX6_isLost_2 tw_423 (c_X6_hasDove l G _ _ _ (by first | assumption | omega | exact zand_rng _ _ | exact zor_rng _ _ | exact zxor_rng _ _ | exact BT.r (IT.b (by assumption)) _ _) (by first | assumption | omega | exact zand_rng _ _ | exact zor_rng _ _ | exact zxor_rng _ _ | exact BT.r (IT.b (by assumption)) _ _)) 0 0 rfl rfl (ci := 6) rfl rfl rfl (by decide) rfl rfl (Nat.le_of_ble_eq_true rfl) ⟨rfl, rfl, by decide, by decide⟩ (jst_i (T_uall ..) ?_)
  refine r_ifb_eq (pc := 5) (tgt := 19) C dX6_isLost_5 (by decide) (fun c5 => absurd c5 (by omega)) (fun c5 => ?_)
  refine r_aload_n (pc := 8) C 0 dX6_isLost_8 rfl rfl ?_
  refine r_get (pc := 9) C 0 0 6 dX6_isLost_9 in_X6 rfl rfl (ci := 6) rfl (by decide) tw_87 rfl rfl ?_
  refine r_iload_n (pc := 12) C 1 dX6_isLost_12 rfl rfl ?_
  refine r_iaload (pc := 13) C 0 7 dX6_isLost_13 rfl rfl (by decide) (by omega) ?_
  refine r_bipush (pc := 14) C dX6_isLost_14 (by decide) ?_
  refine r_icmp_ne (pc := 16) (tgt := 23) C dX6_isLost_16 (by decide) (by first | omega | exact zand_rng _ _ | exact zor_rng _ _ | exact zxor_rng _ _ | exact BT.r (IT.b (by assumption)) _ _) (by first | omega | exact zand_rng _ _ | exact zor_rng _ _ | exact zxor_rng _ _ | exact BT.r (IT.b (by assumption)) _ _) (fun c16 => ?_) (fun c16 => ?_)
  · refine r_iconst (pc := 23) C dX6_isLost_23 ?_
    exact r_zret (pc := 24) C hQ dX6_isLost_24 (by decide) rfl (jst_ri (by exact (zb_f (by omega)).symm) rfl)
  · refine r_iconst (pc := 19) C dX6_isLost_19 ?_
    refine r_goto (pc := 20) (tgt := 24) C dX6_isLost_20 (by decide) ?_
    exact r_zret (pc := 24) C hQ dX6_isLost_24 (by decide) rfl (jst_ri (by exact (zb_t (by omega)).symm) rfl)

set_option maxRecDepth 100000 in
set_option maxHeartbeats 4000000 in
theorem c_X6_isHome (l : Launch) (G : GT) (h : Nat → Nat) (T : Tn) (d : Int) (hI : IT T) (hd : 0 ≤ d ∧ d < T 0 1) : Cn l yX6_isHome cX6_isHome 2 (Option.some .boolean) ({ frames := 1, cells := 0, slots := 0, locals := 21 }) G [.ref (h 0), .int (iI d)] (wT G h T) (jst (some (.int (iI (zb (T 6 d = T 4 d))))) (wT G h T)) := by
  refine Cn_in RX6 [some (.ref (h 0)), some (.int (iI d))] (by decide +kernel) rfl rfl rfl (Nat.le_of_ble_eq_true rfl) (fun K C hQ => ?_)
  have hBB := hI.b
  have hLL := hI.L
  have hDD := hI.D
  have hdd := hI.d hd.1 hd.2
  refine r_aload_n (pc := 0) C 0 dX6_isHome_0 rfl rfl ?_
  refine r_iload_n (pc := 1) C 1 dX6_isHome_1 rfl rfl ?_
  refine r_callV (pc := 2) (is := [0]) C YX6_hasDove dX6_isHome_2 tw_423 (c_X6_hasDove l G _ _ _ (by first | assumption | omega | exact zand_rng _ _ | exact zor_rng _ _ | exact zxor_rng _ _ | exact BT.r (IT.b (by assumption)) _ _) (by first | assumption | omega | exact zand_rng _ _ | exact zor_rng _ _ | exact zxor_rng _ _ | exact BT.r (IT.b (by assumption)) _ _)) 0 0 rfl rfl (ci := 6) rfl rfl rfl (by decide) rfl rfl (Nat.le_of_ble_eq_true rfl) ⟨rfl, rfl, by decide, by decide⟩ (jst_i (T_uall ..) ?_)
  refine r_ifb_eq (pc := 5) (tgt := 27) C dX6_isHome_5 (by decide) (fun c5 => absurd c5 (by omega)) (fun c5 => ?_)
  refine r_aload_n (pc := 8) C 0 dX6_isHome_8 rfl rfl ?_
  refine r_get (pc := 9) C 0 0 6 dX6_isHome_9 in_X6 rfl rfl (ci := 6) rfl (by decide) tw_87 rfl rfl ?_
  refine r_iload_n (pc := 12) C 1 dX6_isHome_12 rfl rfl ?_
  refine r_iaload (pc := 13) C 0 7 dX6_isHome_13 rfl rfl (by decide) (by omega) ?_
  refine r_aload_n (pc := 14) C 0 dX6_isHome_14 rfl rfl ?_
  refine r_get (pc := 15) C 0 0 4 dX6_isHome_15 in_X6 rfl rfl (ci := 6) rfl (by decide) tw_83 rfl rfl ?_
  refine r_iload_n (pc := 18) C 1 dX6_isHome_18 rfl rfl ?_
  refine r_iaload (pc := 19) C 0 5 dX6_isHome_19 rfl rfl (by decide) (by omega) ?_
  refine r_icmp_ne (pc := 20) (tgt := 27) C dX6_isHome_20 (by decide) (by first | omega | exact zand_rng _ _ | exact zor_rng _ _ | exact zxor_rng _ _ | exact BT.r (IT.b (by assumption)) _ _) (by first | omega | exact zand_rng _ _ | exact zor_rng _ _ | exact zxor_rng _ _ | exact BT.r (IT.b (by assumption)) _ _) (fun c20 => ?_) (fun c20 => ?_)
  · refine r_iconst (pc := 27) C dX6_isHome_27 ?_
    exact r_zret (pc := 28) C hQ dX6_isHome_28 (by decide) rfl (jst_ri (by exact (zb_f (by omega)).symm) rfl)
  · refine r_iconst (pc := 23) C dX6_isHome_23 ?_
    refine r_goto (pc := 24) (tgt := 28) C dX6_isHome_24 (by decide) ?_
    exact r_zret (pc := 28) C hQ dX6_isHome_28 (by decide) rfl (jst_ri (by exact (zb_t (by omega)).symm) rfl)

set_option maxRecDepth 100000 in
set_option maxHeartbeats 4000000 in
theorem c_X6_isOpen (l : Launch) (G : GT) (h : Nat → Nat) (T : Tn) (z : Int) (hI : IT T) (hz : 0 ≤ z ∧ z < 32) : Cn l yX6_isOpen cX6_isOpen 2 (Option.some .boolean) ({ frames := 1, cells := 0, slots := 0, locals := 21 }) G [.ref (h 0), .int (iI z)] (wT G h T) (jst (some (.int (iI (zb (zbit (T 0 2) z = 1))))) (wT G h T)) := by
  refine Cn_in RX6 [some (.ref (h 0)), some (.int (iI z))] (by decide +kernel) rfl rfl rfl (Nat.le_of_ble_eq_true rfl) (fun K C hQ => ?_)
  have ho := hI.o
  have hL := hI.L
  have hz6 := zp2_le6 hL
  refine r_aload_n (pc := 0) C 0 dX6_isOpen_0 rfl rfl ?_
  refine r_get (pc := 1) C 0 0 10 dX6_isOpen_1 in_X6 rfl rfl (ci := 6) rfl (by decide) tw_95 rfl rfl ?_
  refine r_iload_n (pc := 4) C 1 dX6_isOpen_4 rfl rfl ?_
  refine r_callN (pc := 5) (is := []) C YX8_isIn dX6_isOpen_5 tw_404 (c_X8_isIn l G _ _ (by first | assumption | omega | exact zand_rng _ _ | exact zor_rng _ _ | exact zxor_rng _ _ | exact BT.r (IT.b (by assumption)) _ _) (by first | assumption | omega | exact zand_rng _ _ | exact zor_rng _ _ | exact zxor_rng _ _ | exact BT.r (IT.b (by assumption)) _ _)) rfl (by decide) rfl rfl (Nat.le_of_ble_eq_true rfl) ⟨rfl, rfl, by decide, by decide⟩ (jst_i (ups_nil _) ?_)
  exact r_zret (pc := 8) C hQ dX6_isOpen_8 (by first | exact zb_01 _ | omega) rfl (jst_ri (by rfl) rfl)

set_option maxRecDepth 100000 in
set_option maxHeartbeats 4000000 in
theorem c_X6_apart (l : Launch) (G : GT) (h : Nat → Nat) (T : Tn) (x y : Int) (hI : IT T) (hx0 : 0 ≤ x ∧ x < T 0 0) (hy0 : 0 ≤ y ∧ y < T 0 0) : Cn l yX6_apart cX6_apart 5 (Option.some .int) ({ frames := 0, cells := 0, slots := 0, locals := 0 }) G [.ref (h 0), .int (iI x), .int (iI y)] (wT G h T) (jst (some (.int (iI (sWay T x y)))) (wT G h T)) := by
  refine Cn_in RX6 [some (.ref (h 0)), some (.int (iI x)), some (.int (iI y)), none, none] (by decide +kernel) rfl rfl rfl (Nat.le_of_ble_eq_true rfl) (fun K C hQ => ?_)
  have hBB := hI.b
  have hLL := hI.L
  have hDD := hI.D
  have hx := hI.l hx0.1 hx0.2
  have hy := hI.l hy0.1 hy0.2
  refine r_iload_n (pc := 0) C 1 dX6_apart_0 rfl rfl ?_
  refine r_if_lt (pc := 1) (tgt := 24) C dX6_apart_1 (by decide) (by first | omega | exact zand_rng _ _ | exact zor_rng _ _ | exact zxor_rng _ _ | exact BT.r (IT.b (by assumption)) _ _) (fun c1 => absurd c1 (by omega)) (fun c1 => ?_)
  refine r_iload_n (pc := 4) C 1 dX6_apart_4 rfl rfl ?_
  refine r_aload_n (pc := 5) C 0 dX6_apart_5 rfl rfl ?_
  refine r_get (pc := 6) C 0 0 8 dX6_apart_6 in_X6 rfl rfl (ci := 6) rfl (by decide) tw_91 rfl rfl ?_
  refine r_icmp_ge (pc := 9) (tgt := 24) C dX6_apart_9 (by decide) (by first | omega | exact zand_rng _ _ | exact zor_rng _ _ | exact zxor_rng _ _ | exact BT.r (IT.b (by assumption)) _ _) (by first | omega | exact zand_rng _ _ | exact zor_rng _ _ | exact zxor_rng _ _ | exact BT.r (IT.b (by assumption)) _ _) (fun c9 => absurd c9 (by omega)) (fun c9 => ?_)
  refine r_iload_n (pc := 12) C 2 dX6_apart_12 rfl rfl ?_
  refine r_if_lt (pc := 13) (tgt := 24) C dX6_apart_13 (by decide) (by first | omega | exact zand_rng _ _ | exact zor_rng _ _ | exact zxor_rng _ _ | exact BT.r (IT.b (by assumption)) _ _) (fun c13 => absurd c13 (by omega)) (fun c13 => ?_)
  refine r_iload_n (pc := 16) C 2 dX6_apart_16 rfl rfl ?_
  refine r_aload_n (pc := 17) C 0 dX6_apart_17 rfl rfl ?_
  refine r_get (pc := 18) C 0 0 8 dX6_apart_18 in_X6 rfl rfl (ci := 6) rfl (by decide) tw_91 rfl rfl ?_
  refine r_icmp_lt (pc := 21) (tgt := 26) C dX6_apart_21 (by decide) (by first | omega | exact zand_rng _ _ | exact zor_rng _ _ | exact zxor_rng _ _ | exact BT.r (IT.b (by assumption)) _ _) (by first | omega | exact zand_rng _ _ | exact zor_rng _ _ | exact zxor_rng _ _ | exact BT.r (IT.b (by assumption)) _ _) (fun c21 => ?_) (fun c21 => absurd c21 (by omega))
  refine r_aload_n (pc := 26) C 0 dX6_apart_26 rfl rfl ?_
  refine r_get (pc := 27) C 0 0 1 dX6_apart_27 in_X6 rfl rfl (ci := 6) rfl (by decide) tw_77 rfl rfl ?_
  refine r_iload_n (pc := 30) C 1 dX6_apart_30 rfl rfl ?_
  refine r_iaload (pc := 31) C 0 2 dX6_apart_31 rfl rfl (by decide) (by omega) ?_
  refine r_aload_n (pc := 32) C 0 dX6_apart_32 rfl rfl ?_
  refine r_get (pc := 33) C 0 0 1 dX6_apart_33 in_X6 rfl rfl (ci := 6) rfl (by decide) tw_77 rfl rfl ?_
  refine r_iload_n (pc := 36) C 2 dX6_apart_36 rfl rfl ?_
  refine r_iaload (pc := 37) C 0 2 dX6_apart_37 rfl rfl (by decide) (by omega) ?_
  refine r_isub (pc := 38) C dX6_apart_38 ?_
  refine r_istore_n (pc := 39) C 3 dX6_apart_39 rfl (Nat.le_of_ble_eq_true rfl) ?_
  refine r_aload_n (pc := 40) C 0 dX6_apart_40 rfl rfl ?_
  refine r_get (pc := 41) C 0 0 2 dX6_apart_41 in_X6 rfl rfl (ci := 6) rfl (by decide) tw_79 rfl rfl ?_
  refine r_iload_n (pc := 44) C 1 dX6_apart_44 rfl rfl ?_
  refine r_iaload (pc := 45) C 0 3 dX6_apart_45 rfl rfl (by decide) (by omega) ?_
  refine r_aload_n (pc := 46) C 0 dX6_apart_46 rfl rfl ?_
  refine r_get (pc := 47) C 0 0 2 dX6_apart_47 in_X6 rfl rfl (ci := 6) rfl (by decide) tw_79 rfl rfl ?_
  refine r_iload_n (pc := 50) C 2 dX6_apart_50 rfl rfl ?_
  refine r_iaload (pc := 51) C 0 3 dX6_apart_51 rfl rfl (by decide) (by omega) ?_
  refine r_isub (pc := 52) C dX6_apart_52 ?_
  refine r_istore (pc := 53) C dX6_apart_53 (Nat.le_of_ble_eq_true rfl) ?_
  refine r_iload_n (pc := 55) C 3 dX6_apart_55 rfl rfl ?_
  refine r_if_ge (pc := 56) (tgt := 64) C dX6_apart_56 (by decide) (by first | omega | exact zand_rng _ _ | exact zor_rng _ _ | exact zxor_rng _ _ | exact BT.r (IT.b (by assumption)) _ _) (fun c56 => ?_) (fun c56 => ?_)
  · refine r_iload_n (pc := 64) C 3 dX6_apart_64 rfl rfl ?_
    refine r_iload (pc := 65) C dX6_apart_65 rfl ?_
    refine r_if_ge (pc := 67) (tgt := 76) C dX6_apart_67 (by decide) (by first | omega | exact zand_rng _ _ | exact zor_rng _ _ | exact zxor_rng _ _ | exact BT.r (IT.b (by assumption)) _ _) (fun c67 => ?_) (fun c67 => ?_)
    · refine r_iload (pc := 76) C dX6_apart_76 rfl ?_
      refine r_iadd (pc := 78) C dX6_apart_78 ?_
      exact r_iret (pc := 79) C hQ dX6_apart_79 rfl (jst_ri (by unfold sWay zabs; repeat (first | rw [if_pos (by omega)] | rw [if_neg (by omega)])) rfl)
    · refine r_iload (pc := 70) C dX6_apart_70 rfl ?_
      refine r_ineg (pc := 72) C dX6_apart_72 ?_
      refine r_goto (pc := 73) (tgt := 78) C dX6_apart_73 (by decide) ?_
      refine r_iadd (pc := 78) C dX6_apart_78 ?_
      exact r_iret (pc := 79) C hQ dX6_apart_79 rfl (jst_ri (by unfold sWay zabs; repeat (first | rw [if_pos (by omega)] | rw [if_neg (by omega)])) rfl)
  · refine r_iload_n (pc := 59) C 3 dX6_apart_59 rfl rfl ?_
    refine r_ineg (pc := 60) C dX6_apart_60 ?_
    refine r_goto (pc := 61) (tgt := 65) C dX6_apart_61 (by decide) ?_
    refine r_iload (pc := 65) C dX6_apart_65 rfl ?_
    refine r_if_ge (pc := 67) (tgt := 76) C dX6_apart_67 (by decide) (by first | omega | exact zand_rng _ _ | exact zor_rng _ _ | exact zxor_rng _ _ | exact BT.r (IT.b (by assumption)) _ _) (fun c67 => ?_) (fun c67 => ?_)
    · refine r_iload (pc := 76) C dX6_apart_76 rfl ?_
      refine r_iadd (pc := 78) C dX6_apart_78 ?_
      exact r_iret (pc := 79) C hQ dX6_apart_79 rfl (jst_ri (by unfold sWay zabs; repeat (first | rw [if_pos (by omega)] | rw [if_neg (by omega)])) rfl)
    · refine r_iload (pc := 70) C dX6_apart_70 rfl ?_
      refine r_ineg (pc := 72) C dX6_apart_72 ?_
      refine r_goto (pc := 73) (tgt := 78) C dX6_apart_73 (by decide) ?_
      refine r_iadd (pc := 78) C dX6_apart_78 ?_
      exact r_iret (pc := 79) C hQ dX6_apart_79 rfl (jst_ri (by unfold sWay zabs; repeat (first | rw [if_pos (by omega)] | rw [if_neg (by omega)])) rfl)

set_option maxRecDepth 100000 in
set_option maxHeartbeats 4000000 in
theorem c_X6_nearestOther (l : Launch) (G : GT) (h : Nat → Nat) (T : Tn) (f : Int) (hI : IT T) (hf : 0 ≤ f ∧ f < T 0 0) : Cn l yX6_nearestOther cX6_nearestOther 6 (Option.some .int) ({ frames := 1, cells := 0, slots := 0, locals := 24 }) G [.ref (h 0), .int (iI f)] (wT G h T) (jst (some (.int (iI (sNear T f (T 0 0))))) (wT G h T)) := by
  refine Cn_in RX6 [some (.ref (h 0)), some (.int (iI f)), none, none, none, none] (by decide +kernel) rfl rfl rfl (Nat.le_of_ble_eq_true rfl) (fun K C hQ => ?_)
  have hBB := hI.b
  have hLL := hI.L
  have hDD := hI.D
  refine r_bipush (pc := 0) C dX6_nearestOther_0 (by decide) ?_
  refine r_istore_n (pc := 2) C 2 dX6_nearestOther_2 rfl (Nat.le_of_ble_eq_true rfl) ?_
  refine r_bipush (pc := 3) C dX6_nearestOther_3 (by decide) ?_
  refine r_istore_n (pc := 5) C 3 dX6_nearestOther_5 rfl (Nat.le_of_ble_eq_true rfl) ?_
  refine r_iconst (pc := 6) C dX6_nearestOther_6 ?_
  refine r_istore (pc := 7) C dX6_nearestOther_7 (Nat.le_of_ble_eq_true rfl) ?_
  have L9 : ∀ (n : Nat) (i : Int), 0 ≤ i → i ≤ T 0 0 → T 0 0 < i + n → Wc K G 9 [some (.ref (h 0)), some (.int (iI f)), some (.int (iI (sNear T f i))), some (.int (iI (sNw T f i))), some (.int (iI i)), none] [] (wT G h T) := by
    intro n
    induction n with
    | zero =>
      intro i h0 h1 hn; omega
    | succ n ih =>
      intro i h0 h1 hn 
      have hN := sNear_r T f h0 (by omega)
      have hw := sNw_or T f i
      refine r_iload (pc := 9) C dX6_nearestOther_9 rfl ?_
      refine r_aload_n (pc := 11) C 0 dX6_nearestOther_11 rfl rfl ?_
      refine r_get (pc := 12) C 0 0 8 dX6_nearestOther_12 in_X6 rfl rfl (ci := 6) rfl (by decide) tw_91 rfl rfl ?_
      refine r_icmp_ge (pc := 15) (tgt := 51) C dX6_nearestOther_15 (by decide) (by first | omega | exact zand_rng _ _ | exact zor_rng _ _ | exact zxor_rng _ _ | exact BT.r (IT.b (by assumption)) _ _) (by first | omega | exact zand_rng _ _ | exact zor_rng _ _ | exact zxor_rng _ _ | exact BT.r (IT.b (by assumption)) _ _) (fun c15 => ?_) (fun c15 => ?_)
      · refine r_iload_n (pc := 51) C 2 dX6_nearestOther_51 rfl rfl ?_
        exact r_iret (pc := 52) C hQ dX6_nearestOther_52 rfl (jst_ri (by rw [show T 0 0 = i by omega]) rfl)
      · refine r_aload_n (pc := 18) C 0 dX6_nearestOther_18 rfl rfl ?_
        refine r_iload_n (pc := 19) C 1 dX6_nearestOther_19 rfl rfl ?_
        refine r_iload (pc := 20) C dX6_nearestOther_20 rfl ?_
        refine r_callV (pc := 22) (is := [0]) C YX6_apart dX6_nearestOther_22 tw_498 (c_X6_apart l G _ _ _ _ (by first | assumption | omega | exact zand_rng _ _ | exact zor_rng _ _ | exact zxor_rng _ _ | exact BT.r (IT.b (by assumption)) _ _) (by first | assumption | omega | exact zand_rng _ _ | exact zor_rng _ _ | exact zxor_rng _ _ | exact BT.r (IT.b (by assumption)) _ _) (by first | assumption | omega | exact zand_rng _ _ | exact zor_rng _ _ | exact zxor_rng _ _ | exact BT.r (IT.b (by assumption)) _ _)) 0 0 rfl rfl (ci := 6) rfl rfl rfl (by decide) rfl rfl (Nat.le_of_ble_eq_true rfl) ⟨rfl, rfl, by decide, by decide⟩ (jst_i (T_uall ..) ?_)
        have hw1 := sWay_r hI (a := f) (b := i) (by omega) (by omega)
        have hw2 : sNear T f i ≠ 9 → 0 ≤ sWay T f (sNear T f i) ∧ sWay T f (sNear T f i) ≤ 18 := fun _ => sWay_r hI (a := f) (b := sNear T f i) (by omega) (by omega)
        refine r_istore (pc := 25) C dX6_nearestOther_25 (Nat.le_of_ble_eq_true rfl) ?_
        refine r_iload (pc := 27) C dX6_nearestOther_27 rfl ?_
        refine r_iload_n (pc := 29) C 1 dX6_nearestOther_29 rfl rfl ?_
        refine r_icmp_eq (pc := 30) (tgt := 45) C dX6_nearestOther_30 (by decide) (by first | omega | exact zand_rng _ _ | exact zor_rng _ _ | exact zxor_rng _ _ | exact BT.r (IT.b (by assumption)) _ _) (by first | omega | exact zand_rng _ _ | exact zor_rng _ _ | exact zxor_rng _ _ | exact BT.r (IT.b (by assumption)) _ _) (fun c30 => ?_) (fun c30 => ?_)
        · refine r_iinc (pc := 45) C dX6_nearestOther_45 rfl ?_
          refine r_goto (pc := 48) (tgt := 9) C dX6_nearestOther_48 (by decide) ?_
          refine Wc.to (ih (i + 1) (by omega) (by omega) (by omega) ) rfl (lsub_s (by first | rfl | (first | (rw [sNw_y h0 (by omega) (by omega)]; done) | (rw [sNw_n h0 (by omega)]; done) | (rw [sNear_s T f h0]; first | rw [if_pos (by omega)] | rw [if_neg (by omega)]))) (lsub_s (by first | rfl | (first | (rw [sNw_y h0 (by omega) (by omega)]; done) | (rw [sNw_n h0 (by omega)]; done) | (rw [sNear_s T f h0]; first | rw [if_pos (by omega)] | rw [if_neg (by omega)]))) (lsub_s (by first | rfl | (first | (rw [sNw_y h0 (by omega) (by omega)]; done) | (rw [sNw_n h0 (by omega)]; done) | (rw [sNear_s T f h0]; first | rw [if_pos (by omega)] | rw [if_neg (by omega)]))) (lsub_s (by first | rfl | (first | (rw [sNw_y h0 (by omega) (by omega)]; done) | (rw [sNw_n h0 (by omega)]; done) | (rw [sNear_s T f h0]; first | rw [if_pos (by omega)] | rw [if_neg (by omega)]))) (lsub_s (by first | rfl | (first | (rw [sNw_y h0 (by omega) (by omega)]; done) | (rw [sNw_n h0 (by omega)]; done) | (rw [sNear_s T f h0]; first | rw [if_pos (by omega)] | rw [if_neg (by omega)]))) (lsub_n lsub_0)))))) (by rfl)
        · refine r_iload (pc := 33) C dX6_nearestOther_33 rfl ?_
          refine r_iload_n (pc := 35) C 3 dX6_nearestOther_35 rfl rfl ?_
          refine r_icmp_ge (pc := 36) (tgt := 45) C dX6_nearestOther_36 (by decide) (by first | omega | exact zand_rng _ _ | exact zor_rng _ _ | exact zxor_rng _ _ | exact BT.r (IT.b (by assumption)) _ _) (by first | omega | exact zand_rng _ _ | exact zor_rng _ _ | exact zxor_rng _ _ | exact BT.r (IT.b (by assumption)) _ _) (fun c36 => ?_) (fun c36 => ?_)
          · refine r_iinc (pc := 45) C dX6_nearestOther_45 rfl ?_
            refine r_goto (pc := 48) (tgt := 9) C dX6_nearestOther_48 (by decide) ?_
            refine Wc.to (ih (i + 1) (by omega) (by omega) (by omega) ) rfl (lsub_s (by first | rfl | (first | (rw [sNw_y h0 (by omega) (by omega)]; done) | (rw [sNw_n h0 (by omega)]; done) | (rw [sNear_s T f h0]; first | rw [if_pos (by omega)] | rw [if_neg (by omega)]))) (lsub_s (by first | rfl | (first | (rw [sNw_y h0 (by omega) (by omega)]; done) | (rw [sNw_n h0 (by omega)]; done) | (rw [sNear_s T f h0]; first | rw [if_pos (by omega)] | rw [if_neg (by omega)]))) (lsub_s (by first | rfl | (first | (rw [sNw_y h0 (by omega) (by omega)]; done) | (rw [sNw_n h0 (by omega)]; done) | (rw [sNear_s T f h0]; first | rw [if_pos (by omega)] | rw [if_neg (by omega)]))) (lsub_s (by first | rfl | (first | (rw [sNw_y h0 (by omega) (by omega)]; done) | (rw [sNw_n h0 (by omega)]; done) | (rw [sNear_s T f h0]; first | rw [if_pos (by omega)] | rw [if_neg (by omega)]))) (lsub_s (by first | rfl | (first | (rw [sNw_y h0 (by omega) (by omega)]; done) | (rw [sNw_n h0 (by omega)]; done) | (rw [sNear_s T f h0]; first | rw [if_pos (by omega)] | rw [if_neg (by omega)]))) (lsub_n lsub_0)))))) (by rfl)
          · refine r_iload (pc := 39) C dX6_nearestOther_39 rfl ?_
            refine r_istore_n (pc := 41) C 3 dX6_nearestOther_41 rfl (Nat.le_of_ble_eq_true rfl) ?_
            refine r_iload (pc := 42) C dX6_nearestOther_42 rfl ?_
            refine r_istore_n (pc := 44) C 2 dX6_nearestOther_44 rfl (Nat.le_of_ble_eq_true rfl) ?_
            refine r_iinc (pc := 45) C dX6_nearestOther_45 rfl ?_
            refine r_goto (pc := 48) (tgt := 9) C dX6_nearestOther_48 (by decide) ?_
            refine Wc.to (ih (i + 1) (by omega) (by omega) (by omega) ) rfl (lsub_s (by first | rfl | (first | (rw [sNw_y h0 (by omega) (by omega)]; done) | (rw [sNw_n h0 (by omega)]; done) | (rw [sNear_s T f h0]; first | rw [if_pos (by omega)] | rw [if_neg (by omega)]))) (lsub_s (by first | rfl | (first | (rw [sNw_y h0 (by omega) (by omega)]; done) | (rw [sNw_n h0 (by omega)]; done) | (rw [sNear_s T f h0]; first | rw [if_pos (by omega)] | rw [if_neg (by omega)]))) (lsub_s (by first | rfl | (first | (rw [sNw_y h0 (by omega) (by omega)]; done) | (rw [sNw_n h0 (by omega)]; done) | (rw [sNear_s T f h0]; first | rw [if_pos (by omega)] | rw [if_neg (by omega)]))) (lsub_s (by first | rfl | (first | (rw [sNw_y h0 (by omega) (by omega)]; done) | (rw [sNw_n h0 (by omega)]; done) | (rw [sNear_s T f h0]; first | rw [if_pos (by omega)] | rw [if_neg (by omega)]))) (lsub_s (by first | rfl | (first | (rw [sNw_y h0 (by omega) (by omega)]; done) | (rw [sNw_n h0 (by omega)]; done) | (rw [sNear_s T f h0]; first | rw [if_pos (by omega)] | rw [if_neg (by omega)]))) (lsub_n lsub_0)))))) (by rfl)
  refine Wc.to (L9 ((T 0 0 - (0)).toNat + 1) (0) (by omega) (by omega) (by omega) ) rfl (lsub_s rfl (lsub_s rfl (lsub_s rfl (lsub_s rfl (lsub_s rfl (lsub_n lsub_0)))))) (by rfl)

set_option maxRecDepth 100000 in
set_option maxHeartbeats 4000000 in
theorem c_X1_aim (l : Launch) (G : GT) (p t : Nat) (f hm ag : Int)  : Cn l yX1_aim cX1_aim 5 (Option.some .int) ({ frames := 0, cells := 0, slots := 0, locals := 0 }) G [.ref p, .ref t, .int (iI f), .int (iI hm), .int (iI ag)] (w0) (jst (some (.int (iI (hm)))) (w0)) := by
  refine Cn_in RX1 [some (.ref p), some (.ref t), some (.int (iI f)), some (.int (iI hm)), some (.int (iI ag))] (by decide +kernel) rfl rfl rfl (Nat.le_of_ble_eq_true rfl) (fun K C hQ => ?_)
  refine r_iload_n (pc := 0) C 3 dX1_aim_0 rfl rfl ?_
  exact r_iret (pc := 1) C hQ dX1_aim_1 rfl (jst_ri (by rfl) rfl)

set_option maxRecDepth 100000 in
set_option maxHeartbeats 4000000 in
theorem c_X1_worth (l : Launch) (G : GT) (p : Nat) (ag : Int)  : Cn l yX1_worth cX1_worth 2 (Option.some .int) ({ frames := 0, cells := 0, slots := 0, locals := 0 }) G [.ref p, .int (iI ag)] (w0) (jst (some (.int (iI (5)))) (w0)) := by
  refine Cn_in RX1 [some (.ref p), some (.int (iI ag))] (by decide +kernel) rfl rfl rfl (Nat.le_of_ble_eq_true rfl) (fun K C hQ => ?_)
  refine r_iconst (pc := 0) C dX1_worth_0 ?_
  exact r_iret (pc := 1) C hQ dX1_worth_1 rfl (jst_ri (by rfl) rfl)

set_option maxRecDepth 100000 in
set_option maxHeartbeats 4000000 in
theorem c_X1_lays (l : Launch) (G : GT) (p : Nat) (ag : Int)  : Cn l yX1_lays cX1_lays 2 (Option.some .boolean) ({ frames := 0, cells := 0, slots := 0, locals := 0 }) G [.ref p, .int (iI ag)] (w0) (jst (some (.int (iI (zb ((0 : Int) = 1))))) (w0)) := by
  refine Cn_in RX1 [some (.ref p), some (.int (iI ag))] (by decide +kernel) rfl rfl rfl (Nat.le_of_ble_eq_true rfl) (fun K C hQ => ?_)
  refine r_iconst (pc := 0) C dX1_lays_0 ?_
  exact r_zret (pc := 1) C hQ dX1_lays_1 (by decide) rfl (jst_ri (by exact (zb_f (by decide)).symm) rfl)

set_option maxRecDepth 100000 in
set_option maxHeartbeats 4000000 in
theorem c_X2_aim (l : Launch) (G : GT) (h : Nat → Nat) (T : Tn) (f hm ag : Int) (ha : 0 ≤ ag ∧ ag ≤ 9) : Cn l yX2_aim cX2_aim 5 (Option.some .int) ({ frames := 1, cells := 0, slots := 0, locals := 24 }) G [.ref (h 10), .ref (h 0), .int (iI f), .int (iI hm), .int (iI ag)] (wT G h T) (jst (some (.int (iI (if 5 ≤ ag then 9 else hm)))) (wT G h T)) := by
  refine Cn_in RX2 [some (.ref (h 10)), some (.ref (h 0)), some (.int (iI f)), some (.int (iI hm)), some (.int (iI ag))] (by decide +kernel) rfl rfl rfl (Nat.le_of_ble_eq_true rfl) (fun K C hQ => ?_)
  refine r_iload (pc := 0) C dX2_aim_0 rfl ?_
  refine r_iconst (pc := 2) C dX2_aim_2 ?_
  refine r_icmp_lt (pc := 3) (tgt := 11) C dX2_aim_3 (by decide) (by first | omega | exact zand_rng _ _ | exact zor_rng _ _ | exact zxor_rng _ _ | exact BT.r (IT.b (by assumption)) _ _) (by first | omega | exact zand_rng _ _ | exact zor_rng _ _ | exact zxor_rng _ _ | exact BT.r (IT.b (by assumption)) _ _) (fun c3 => ?_) (fun c3 => ?_)
  · refine r_aload_n (pc := 11) C 0 dX2_aim_11 rfl rfl ?_
    refine r_aload_n (pc := 12) C 1 dX2_aim_12 rfl rfl ?_
    refine r_iload_n (pc := 13) C 2 dX2_aim_13 rfl rfl ?_
    refine r_iload_n (pc := 14) C 3 dX2_aim_14 rfl rfl ?_
    refine r_iload (pc := 15) C dX2_aim_15 rfl ?_
    refine r_callP (pc := 17) (is := []) C YBX1_aim dX2_aim_17 tw_490 tw_485 tw_47 tw_483 (by decide +kernel) (c_X1_aim l G _ _ _ _ _) 0 10 rfl rfl (ci := 2) rfl rfl (by decide) rfl rfl (Nat.le_of_ble_eq_true rfl) ⟨rfl, rfl, by decide, by decide⟩ (jst_i (ups_nil _) ?_)
    exact r_iret (pc := 20) C hQ dX2_aim_20 rfl (jst_ri (by first | rw [if_pos (by omega)] | rw [if_neg (by omega)]) rfl)
  · refine r_bipush (pc := 6) C dX2_aim_6 (by decide) ?_
    refine r_goto (pc := 8) (tgt := 20) C dX2_aim_8 (by decide) ?_
    exact r_iret (pc := 20) C hQ dX2_aim_20 rfl (jst_ri (by first | rw [if_pos (by omega)] | rw [if_neg (by omega)]) rfl)

set_option maxRecDepth 100000 in
set_option maxHeartbeats 4000000 in
theorem c_X3_aim (l : Launch) (G : GT) (p : Nat) (h : Nat → Nat) (T : Tn) (f hm ag : Int) (hI : IT T) (hf : 0 ≤ f ∧ f < T 0 0) : Cn l yX3_aim cX3_aim 5 (Option.some .int) ({ frames := 2, cells := 0, slots := 0, locals := 49 }) G [.ref p, .ref (h 0), .int (iI f), .int (iI hm), .int (iI ag)] (wT G h T) (jst (some (.int (iI (sNear T f (T 0 0))))) (wT G h T)) := by
  refine Cn_in RX3 [some (.ref p), some (.ref (h 0)), some (.int (iI f)), some (.int (iI hm)), some (.int (iI ag))] (by decide +kernel) rfl rfl rfl (Nat.le_of_ble_eq_true rfl) (fun K C hQ => ?_)
  refine r_aload_n (pc := 0) C 1 dX3_aim_0 rfl rfl ?_
  refine r_iload_n (pc := 1) C 2 dX3_aim_1 rfl rfl ?_
  refine r_callV (pc := 2) (is := [0]) C YX6_nearestOther dX3_aim_2 tw_494 (c_X6_nearestOther l G _ _ _ (by first | assumption | omega | exact zand_rng _ _ | exact zor_rng _ _ | exact zxor_rng _ _ | exact BT.r (IT.b (by assumption)) _ _) (by first | assumption | omega | exact zand_rng _ _ | exact zor_rng _ _ | exact zxor_rng _ _ | exact BT.r (IT.b (by assumption)) _ _)) 0 0 rfl rfl (ci := 6) rfl rfl rfl (by decide) rfl rfl (Nat.le_of_ble_eq_true rfl) ⟨rfl, rfl, by decide, by decide⟩ (jst_i (T_uall ..) ?_)
  exact r_iret (pc := 5) C hQ dX3_aim_5 rfl (jst_ri (by rfl) rfl)

set_option maxRecDepth 100000 in
set_option maxHeartbeats 4000000 in
theorem c_X7_aim (l : Launch) (G : GT) (p : Nat) (h : Nat → Nat) (T : Tn) (f hm ag : Int) (hI : IT T) (hf : 0 ≤ f ∧ f < T 0 0) (hm0 : 0 ≤ hm ∧ hm < T 0 0) (ha : 0 ≤ ag ∧ ag ≤ 9) : Cn l yX7_aim cX7_aim 5 (Option.some .int) ({ frames := 1, cells := 0, slots := 0, locals := 24 }) G [.ref p, .ref (h 0), .int (iI f), .int (iI hm), .int (iI ag)] (wT G h T) (jst (some (.int (iI (if sWay T f hm ≤ 2 * ag then hm else 9)))) (wT G h T)) := by
  refine Cn_in RX7 [some (.ref p), some (.ref (h 0)), some (.int (iI f)), some (.int (iI hm)), some (.int (iI ag))] (by decide +kernel) rfl rfl rfl (Nat.le_of_ble_eq_true rfl) (fun K C hQ => ?_)
  refine r_aload_n (pc := 0) C 1 dX7_aim_0 rfl rfl ?_
  refine r_iload_n (pc := 1) C 2 dX7_aim_1 rfl rfl ?_
  refine r_iload_n (pc := 2) C 3 dX7_aim_2 rfl rfl ?_
  refine r_callV (pc := 3) (is := [0]) C YX6_apart dX7_aim_3 tw_509 (c_X6_apart l G _ _ _ _ (by first | assumption | omega | exact zand_rng _ _ | exact zor_rng _ _ | exact zxor_rng _ _ | exact BT.r (IT.b (by assumption)) _ _) (by first | assumption | omega | exact zand_rng _ _ | exact zor_rng _ _ | exact zxor_rng _ _ | exact BT.r (IT.b (by assumption)) _ _) (by first | assumption | omega | exact zand_rng _ _ | exact zor_rng _ _ | exact zxor_rng _ _ | exact BT.r (IT.b (by assumption)) _ _)) 0 0 rfl rfl (ci := 6) rfl rfl rfl (by decide) rfl rfl (Nat.le_of_ble_eq_true rfl) ⟨rfl, rfl, by decide, by decide⟩ (jst_i (T_uall ..) ?_)
  have hw1 := sWay_r hI (a := f) (b := hm) (by omega) (by omega)
  refine r_iconst (pc := 6) C dX7_aim_6 ?_
  refine r_iload (pc := 7) C dX7_aim_7 rfl ?_
  refine r_imul (pc := 9) C dX7_aim_9 ?_
  refine r_icmp_gt (pc := 10) (tgt := 17) C dX7_aim_10 (by decide) (by first | omega | exact zand_rng _ _ | exact zor_rng _ _ | exact zxor_rng _ _ | exact BT.r (IT.b (by assumption)) _ _) (by first | omega | exact zand_rng _ _ | exact zor_rng _ _ | exact zxor_rng _ _ | exact BT.r (IT.b (by assumption)) _ _) (fun c10 => ?_) (fun c10 => ?_)
  · refine r_bipush (pc := 17) C dX7_aim_17 (by decide) ?_
    exact r_iret (pc := 19) C hQ dX7_aim_19 rfl (jst_ri (by first | rw [if_pos (by omega)] | rw [if_neg (by omega)]) rfl)
  · refine r_iload_n (pc := 13) C 3 dX7_aim_13 rfl rfl ?_
    refine r_goto (pc := 14) (tgt := 19) C dX7_aim_14 (by decide) ?_
    exact r_iret (pc := 19) C hQ dX7_aim_19 rfl (jst_ri (by first | rw [if_pos (by omega)] | rw [if_neg (by omega)]) rfl)

set_option maxRecDepth 100000 in
set_option maxHeartbeats 4000000 in
theorem c_X4_aim (l : Launch) (G : GT) (h : Nat → Nat) (T : Tn) (f hm ag : Int) (hI : IT T) (hf : 0 ≤ f ∧ f < T 0 0) (hm0 : 0 ≤ hm ∧ hm < T 0 0) (ha : 0 ≤ ag ∧ ag ≤ 9) : Cn l yX4_aim cX4_aim 5 (Option.some .int) ({ frames := 2, cells := 0, slots := 0, locals := 48 }) G [.ref (h 14), .ref (h 0), .int (iI f), .int (iI hm), .int (iI ag)] (wT G h T) (jst (some (.int (iI (if sWay T f hm < 3 then 9 else if sWay T f hm ≤ 2 * ag then hm else 9)))) (wT G h T)) := by
  refine Cn_in RX4 [some (.ref (h 14)), some (.ref (h 0)), some (.int (iI f)), some (.int (iI hm)), some (.int (iI ag))] (by decide +kernel) rfl rfl rfl (Nat.le_of_ble_eq_true rfl) (fun K C hQ => ?_)
  refine r_aload_n (pc := 0) C 1 dX4_aim_0 rfl rfl ?_
  refine r_iload_n (pc := 1) C 2 dX4_aim_1 rfl rfl ?_
  refine r_iload_n (pc := 2) C 3 dX4_aim_2 rfl rfl ?_
  refine r_callV (pc := 3) (is := [0]) C YX6_apart dX4_aim_3 tw_505 (c_X6_apart l G _ _ _ _ (by first | assumption | omega | exact zand_rng _ _ | exact zor_rng _ _ | exact zxor_rng _ _ | exact BT.r (IT.b (by assumption)) _ _) (by first | assumption | omega | exact zand_rng _ _ | exact zor_rng _ _ | exact zxor_rng _ _ | exact BT.r (IT.b (by assumption)) _ _) (by first | assumption | omega | exact zand_rng _ _ | exact zor_rng _ _ | exact zxor_rng _ _ | exact BT.r (IT.b (by assumption)) _ _)) 0 0 rfl rfl (ci := 6) rfl rfl rfl (by decide) rfl rfl (Nat.le_of_ble_eq_true rfl) ⟨rfl, rfl, by decide, by decide⟩ (jst_i (T_uall ..) ?_)
  have hw1 := sWay_r hI (a := f) (b := hm) (by omega) (by omega)
  refine r_iconst (pc := 6) C dX4_aim_6 ?_
  refine r_icmp_ge (pc := 7) (tgt := 15) C dX4_aim_7 (by decide) (by first | omega | exact zand_rng _ _ | exact zor_rng _ _ | exact zxor_rng _ _ | exact BT.r (IT.b (by assumption)) _ _) (by first | omega | exact zand_rng _ _ | exact zor_rng _ _ | exact zxor_rng _ _ | exact BT.r (IT.b (by assumption)) _ _) (fun c7 => ?_) (fun c7 => ?_)
  · refine r_aload_n (pc := 15) C 0 dX4_aim_15 rfl rfl ?_
    refine r_aload_n (pc := 16) C 1 dX4_aim_16 rfl rfl ?_
    refine r_iload_n (pc := 17) C 2 dX4_aim_17 rfl rfl ?_
    refine r_iload_n (pc := 18) C 3 dX4_aim_18 rfl rfl ?_
    refine r_iload (pc := 19) C dX4_aim_19 rfl ?_
    refine r_callP (pc := 21) (is := [0]) C YBX7_aim dX4_aim_21 tw_506 tw_1038 tw_75 tw_507 (by decide +kernel) (c_X7_aim l G _ _ _ _ _ _ (by first | assumption | omega | exact zand_rng _ _ | exact zor_rng _ _ | exact zxor_rng _ _ | exact BT.r (IT.b (by assumption)) _ _) (by first | assumption | omega | exact zand_rng _ _ | exact zor_rng _ _ | exact zxor_rng _ _ | exact BT.r (IT.b (by assumption)) _ _) (by first | assumption | omega | exact zand_rng _ _ | exact zor_rng _ _ | exact zxor_rng _ _ | exact BT.r (IT.b (by assumption)) _ _) (by first | assumption | omega | exact zand_rng _ _ | exact zor_rng _ _ | exact zxor_rng _ _ | exact BT.r (IT.b (by assumption)) _ _)) 0 14 rfl rfl (ci := 4) rfl rfl (by decide) rfl rfl (Nat.le_of_ble_eq_true rfl) ⟨rfl, rfl, by decide, by decide⟩ (jst_i (T_uall ..) ?_)
    exact r_iret (pc := 24) C hQ dX4_aim_24 rfl (jst_ri (by first | (rw [if_neg (show ¬ sWay T f hm < 3 by omega)]; done) | (rw [if_pos (show sWay T f hm < 3 by omega)]; done)) rfl)
  · refine r_bipush (pc := 10) C dX4_aim_10 (by decide) ?_
    refine r_goto (pc := 12) (tgt := 24) C dX4_aim_12 (by decide) ?_
    exact r_iret (pc := 24) C hQ dX4_aim_24 rfl (jst_ri (by first | (rw [if_neg (show ¬ sWay T f hm < 3 by omega)]; done) | (rw [if_pos (show sWay T f hm < 3 by omega)]; done)) rfl)

set_option maxRecDepth 100000 in
set_option maxHeartbeats 4000000 in
theorem c_X0_worth (l : Launch) (G : GT) (h : Nat → Nat) (T : Tn) (ag : Int)  : Cn l yX0_worth cX0_worth 2 (Option.some .int) ({ frames := 1, cells := 0, slots := 0, locals := 21 }) G [.ref (h 13), .int (iI ag)] (wT G h T) (jst (some (.int (iI (8)))) (wT G h T)) := by
  refine Cn_in RX0 [some (.ref (h 13)), some (.int (iI ag))] (by decide +kernel) rfl rfl rfl (Nat.le_of_ble_eq_true rfl) (fun K C hQ => ?_)
  refine r_aload_n (pc := 0) C 0 dX0_worth_0 rfl rfl ?_
  refine r_iload_n (pc := 1) C 1 dX0_worth_1 rfl rfl ?_
  refine r_callP (pc := 2) (is := []) C YBX1_worth dX0_worth_2 tw_438 tw_434 tw_68 tw_432 (by decide +kernel) (c_X1_worth l G _ _) 0 13 rfl rfl (ci := 0) rfl rfl (by decide) rfl rfl (Nat.le_of_ble_eq_true rfl) ⟨rfl, rfl, by decide, by decide⟩ (jst_i (ups_nil _) ?_)
  refine r_iconst (pc := 5) C dX0_worth_5 ?_
  refine r_iadd (pc := 6) C dX0_worth_6 ?_
  exact r_iret (pc := 7) C hQ dX0_worth_7 rfl (jst_ri (by rfl) rfl)

set_option maxRecDepth 100000 in
set_option maxHeartbeats 4000000 in
theorem c_X2_worth (l : Launch) (G : GT) (h : Nat → Nat) (T : Tn) (ag : Int) (ha : 0 ≤ ag ∧ ag ≤ 9) : Cn l yX2_worth cX2_worth 2 (Option.some .int) ({ frames := 1, cells := 0, slots := 0, locals := 21 }) G [.ref (h 10), .int (iI ag)] (wT G h T) (jst (some (.int (iI (if 5 - ag < 1 then 1 else 5 - ag)))) (wT G h T)) := by
  refine Cn_in RX2 [some (.ref (h 10)), some (.int (iI ag))] (by decide +kernel) rfl rfl rfl (Nat.le_of_ble_eq_true rfl) (fun K C hQ => ?_)
  refine r_aload_n (pc := 0) C 0 dX2_worth_0 rfl rfl ?_
  refine r_iload_n (pc := 1) C 1 dX2_worth_1 rfl rfl ?_
  refine r_callP (pc := 2) (is := []) C YBX1_worth dX2_worth_2 tw_442 tw_434 tw_47 tw_432 (by decide +kernel) (c_X1_worth l G _ _) 0 10 rfl rfl (ci := 2) rfl rfl (by decide) rfl rfl (Nat.le_of_ble_eq_true rfl) ⟨rfl, rfl, by decide, by decide⟩ (jst_i (ups_nil _) ?_)
  refine r_iload_n (pc := 5) C 1 dX2_worth_5 rfl rfl ?_
  refine r_isub (pc := 6) C dX2_worth_6 ?_
  refine r_iconst (pc := 7) C dX2_worth_7 ?_
  refine r_max (pc := 8) C dX2_worth_8 tw_443 tw_300 tw_15 tw_301 (Nat.le_of_ble_eq_true rfl) (by decide) (by first | omega | exact zand_rng _ _ | exact zor_rng _ _ | exact zxor_rng _ _ | exact BT.r (IT.b (by assumption)) _ _) (by first | omega | exact zand_rng _ _ | exact zor_rng _ _ | exact zxor_rng _ _ | exact BT.r (IT.b (by assumption)) _ _) ?_
  exact r_iret (pc := 11) C hQ dX2_worth_11 rfl (jst_ri (by first | rfl | rw [if_pos (by omega)] | rw [if_neg (by omega)]) rfl)

set_option maxRecDepth 100000 in
set_option maxHeartbeats 4000000 in
theorem c_X3_worth (l : Launch) (G : GT) (p : Nat) (ag : Int)  : Cn l yX3_worth cX3_worth 2 (Option.some .int) ({ frames := 0, cells := 0, slots := 0, locals := 0 }) G [.ref p, .int (iI ag)] (w0) (jst (some (.int (iI (2)))) (w0)) := by
  refine Cn_in RX3 [some (.ref p), some (.int (iI ag))] (by decide +kernel) rfl rfl rfl (Nat.le_of_ble_eq_true rfl) (fun K C hQ => ?_)
  refine r_iconst (pc := 0) C dX3_worth_0 ?_
  exact r_iret (pc := 1) C hQ dX3_worth_1 rfl (jst_ri (by rfl) rfl)

set_option maxRecDepth 100000 in
set_option maxHeartbeats 4000000 in
theorem c_X7_worth11 (l : Launch) (G : GT) (h : Nat → Nat) (T : Tn) (ag : Int)  : Cn l yX7_worth cX7_worth 2 (Option.some .int) ({ frames := 1, cells := 0, slots := 0, locals := 21 }) G [.ref (h 11), .int (iI ag)] (wT G h T) (jst (some (.int (iI (3)))) (wT G h T)) := by
  refine Cn_in RX7 [some (.ref (h 11)), some (.int (iI ag))] (by decide +kernel) rfl rfl rfl (Nat.le_of_ble_eq_true rfl) (fun K C hQ => ?_)
  refine r_aload_n (pc := 0) C 0 dX7_worth_0 rfl rfl ?_
  refine r_iload_n (pc := 1) C 1 dX7_worth_1 rfl rfl ?_
  refine r_callP (pc := 2) (is := []) C YBX1_worth dX7_worth_2 tw_453 tw_434 tw_54 tw_432 (by decide +kernel) (c_X1_worth l G _ _) 0 11 rfl rfl (ci := 7) rfl rfl (by decide) rfl rfl (Nat.le_of_ble_eq_true rfl) ⟨rfl, rfl, by decide, by decide⟩ (jst_i (ups_nil _) ?_)
  refine r_iconst (pc := 5) C dX7_worth_5 ?_
  refine r_isub (pc := 6) C dX7_worth_6 ?_
  exact r_iret (pc := 7) C hQ dX7_worth_7 rfl (jst_ri (by rfl) rfl)

set_option maxRecDepth 100000 in
set_option maxHeartbeats 4000000 in
theorem c_X7_worth14 (l : Launch) (G : GT) (h : Nat → Nat) (T : Tn) (ag : Int)  : Cn l yX7_worth cX7_worth 2 (Option.some .int) ({ frames := 1, cells := 0, slots := 0, locals := 21 }) G [.ref (h 14), .int (iI ag)] (wT G h T) (jst (some (.int (iI (3)))) (wT G h T)) := by
  refine Cn_in RX7 [some (.ref (h 14)), some (.int (iI ag))] (by decide +kernel) rfl rfl rfl (Nat.le_of_ble_eq_true rfl) (fun K C hQ => ?_)
  refine r_aload_n (pc := 0) C 0 dX7_worth_0 rfl rfl ?_
  refine r_iload_n (pc := 1) C 1 dX7_worth_1 rfl rfl ?_
  refine r_callP (pc := 2) (is := []) C YBX1_worth dX7_worth_2 tw_453 tw_434 tw_54 tw_432 (by decide +kernel) (c_X1_worth l G _ _) 0 14 rfl rfl (ci := 4) rfl rfl (by decide) rfl rfl (Nat.le_of_ble_eq_true rfl) ⟨rfl, rfl, by decide, by decide⟩ (jst_i (ups_nil _) ?_)
  refine r_iconst (pc := 5) C dX7_worth_5 ?_
  refine r_isub (pc := 6) C dX7_worth_6 ?_
  exact r_iret (pc := 7) C hQ dX7_worth_7 rfl (jst_ri (by rfl) rfl)

set_option maxRecDepth 100000 in
set_option maxHeartbeats 4000000 in
theorem c_X4_worth (l : Launch) (G : GT) (h : Nat → Nat) (T : Tn) (ag : Int)  : Cn l yX4_worth cX4_worth 2 (Option.some .int) ({ frames := 2, cells := 0, slots := 0, locals := 42 }) G [.ref (h 14), .int (iI ag)] (wT G h T) (jst (some (.int (iI (6)))) (wT G h T)) := by
  refine Cn_in RX4 [some (.ref (h 14)), some (.int (iI ag))] (by decide +kernel) rfl rfl rfl (Nat.le_of_ble_eq_true rfl) (fun K C hQ => ?_)
  refine r_iconst (pc := 0) C dX4_worth_0 ?_
  refine r_aload_n (pc := 1) C 0 dX4_worth_1 rfl rfl ?_
  refine r_iload_n (pc := 2) C 1 dX4_worth_2 rfl rfl ?_
  refine r_callP (pc := 3) (is := [0]) C YBX7_worth dX4_worth_3 tw_450 tw_1037 tw_75 tw_451 (by decide +kernel) (c_X7_worth14 l G _ _ _) 0 14 rfl rfl (ci := 4) rfl rfl (by decide) rfl rfl (Nat.le_of_ble_eq_true rfl) ⟨rfl, rfl, by decide, by decide⟩ (jst_i (T_uall ..) ?_)
  refine r_imul (pc := 6) C dX4_worth_6 ?_
  exact r_iret (pc := 7) C hQ dX4_worth_7 rfl (jst_ri (by rfl) rfl)

set_option maxRecDepth 100000 in
set_option maxHeartbeats 4000000 in
theorem c_X0_lays (l : Launch) (G : GT) (p : Nat) (ag : Int) (ha : 0 ≤ ag ∧ ag ≤ 9) : Cn l yX0_lays cX0_lays 2 (Option.some .boolean) ({ frames := 0, cells := 0, slots := 0, locals := 0 }) G [.ref p, .int (iI ag)] (w0) (jst (some (.int (iI (zb (1 ≤ ag ∧ ag ≤ 6))))) (w0)) := by
  refine Cn_in RX0 [some (.ref p), some (.int (iI ag))] (by decide +kernel) rfl rfl rfl (Nat.le_of_ble_eq_true rfl) (fun K C hQ => ?_)
  refine r_iload_n (pc := 0) C 1 dX0_lays_0 rfl rfl ?_
  refine r_iconst (pc := 1) C dX0_lays_1 ?_
  refine r_icmp_lt (pc := 2) (tgt := 15) C dX0_lays_2 (by decide) (by first | omega | exact zand_rng _ _ | exact zor_rng _ _ | exact zxor_rng _ _ | exact BT.r (IT.b (by assumption)) _ _) (by first | omega | exact zand_rng _ _ | exact zor_rng _ _ | exact zxor_rng _ _ | exact BT.r (IT.b (by assumption)) _ _) (fun c2 => ?_) (fun c2 => ?_)
  · refine r_iconst (pc := 15) C dX0_lays_15 ?_
    exact r_zret (pc := 16) C hQ dX0_lays_16 (by decide) rfl (jst_ri (by exact (zb_f (by omega)).symm) rfl)
  · refine r_iload_n (pc := 5) C 1 dX0_lays_5 rfl rfl ?_
    refine r_bipush (pc := 6) C dX0_lays_6 (by decide) ?_
    refine r_icmp_gt (pc := 8) (tgt := 15) C dX0_lays_8 (by decide) (by first | omega | exact zand_rng _ _ | exact zor_rng _ _ | exact zxor_rng _ _ | exact BT.r (IT.b (by assumption)) _ _) (by first | omega | exact zand_rng _ _ | exact zor_rng _ _ | exact zxor_rng _ _ | exact BT.r (IT.b (by assumption)) _ _) (fun c8 => ?_) (fun c8 => ?_)
    · refine r_iconst (pc := 15) C dX0_lays_15 ?_
      exact r_zret (pc := 16) C hQ dX0_lays_16 (by decide) rfl (jst_ri (by exact (zb_f (by omega)).symm) rfl)
    · refine r_iconst (pc := 11) C dX0_lays_11 ?_
      refine r_goto (pc := 12) (tgt := 16) C dX0_lays_12 (by decide) ?_
      exact r_zret (pc := 16) C hQ dX0_lays_16 (by decide) rfl (jst_ri (by exact (zb_t (by omega)).symm) rfl)

set_option maxRecDepth 100000 in
set_option maxHeartbeats 4000000 in
theorem c_X6_kindOf0 (l : Launch) (G : GT) (h : Nat → Nat) (T : Tn) (d : Int) (hI : IT T) (hd : 0 ≤ d ∧ d < T 0 1) (hk : T 3 d = 0) : Cn l yX6_kindOf cX6_kindOf 3 (Option.some (.object "CoinsAreDoves$Dove")) ({ frames := 1, cells := 0, slots := 0, locals := 21 }) G [.ref (h 0), .int (iI d)] (wT G h T) (jst (some (.ref (h 9))) (wT G h T)) := by
  refine Cn_in RX6 [some (.ref (h 0)), some (.int (iI d)), none] (by decide +kernel) rfl rfl rfl (Nat.le_of_ble_eq_true rfl) (fun K C hQ => ?_)
  have hBB := hI.b
  have hLL := hI.L
  have hDD := hI.D
  have hdd := hI.d hd.1 hd.2
  refine r_aload_n (pc := 0) C 0 dX6_kindOf_0 rfl rfl ?_
  refine r_iload_n (pc := 1) C 1 dX6_kindOf_1 rfl rfl ?_
  refine r_callV (pc := 2) (is := [0]) C YX6_hasDove dX6_kindOf_2 tw_423 (c_X6_hasDove l G _ _ _ (by first | assumption | omega | exact zand_rng _ _ | exact zor_rng _ _ | exact zxor_rng _ _ | exact BT.r (IT.b (by assumption)) _ _) (by first | assumption | omega | exact zand_rng _ _ | exact zor_rng _ _ | exact zxor_rng _ _ | exact BT.r (IT.b (by assumption)) _ _)) 0 0 rfl rfl (ci := 6) rfl rfl rfl (by decide) rfl rfl (Nat.le_of_ble_eq_true rfl) ⟨rfl, rfl, by decide, by decide⟩ (jst_i (T_uall ..) ?_)
  refine r_ifb_eq (pc := 5) (tgt := 17) C dX6_kindOf_5 (by decide) (fun c5 => absurd c5 (by omega)) (fun c5 => ?_)
  refine r_aload_n (pc := 8) C 0 dX6_kindOf_8 rfl rfl ?_
  refine r_get (pc := 9) C 0 0 3 dX6_kindOf_9 in_X6 rfl rfl (ci := 6) rfl (by decide) tw_81 rfl rfl ?_
  refine r_iload_n (pc := 12) C 1 dX6_kindOf_12 rfl rfl ?_
  refine r_ialoadE (pc := 13) C 0 4 dX6_kindOf_13 rfl rfl (by decide) (by omega) hk ?_
  refine r_goto (pc := 14) (tgt := 18) C dX6_kindOf_14 (by decide) ?_
  refine r_istore_n (pc := 18) C 2 dX6_kindOf_18 rfl (Nat.le_of_ble_eq_true rfl) ?_
  refine r_iload_n (pc := 19) C 2 dX6_kindOf_19 rfl rfl ?_
  refine r_if_lt (pc := 20) (tgt := 41) C dX6_kindOf_20 (by decide) (by first | omega | exact zand_rng _ _ | exact zor_rng _ _ | exact zxor_rng _ _ | exact BT.r (IT.b (by assumption)) _ _) (fun c20 => absurd c20 (by omega)) (fun c20 => ?_)
  refine r_iload_n (pc := 23) C 2 dX6_kindOf_23 rfl rfl ?_
  refine r_aload_n (pc := 24) C 0 dX6_kindOf_24 rfl rfl ?_
  refine r_get (pc := 25) C 0 0 0 dX6_kindOf_25 in_X6 rfl rfl (ci := 6) rfl (by decide) tw_76 rfl rfl ?_
  refine r_qlen (pc := 28) C 0 1 dX6_kindOf_28 rfl rfl ?_
  refine r_icmp_ge (pc := 29) (tgt := 41) C dX6_kindOf_29 (by decide) (by first | omega | exact zand_rng _ _ | exact zor_rng _ _ | exact zxor_rng _ _ | exact BT.r (IT.b (by assumption)) _ _) (by first | omega | exact zand_rng _ _ | exact zor_rng _ _ | exact zxor_rng _ _ | exact BT.r (IT.b (by assumption)) _ _) (fun c29 => absurd c29 (by omega)) (fun c29 => ?_)
  refine r_aload_n (pc := 32) C 0 dX6_kindOf_32 rfl rfl ?_
  refine r_get (pc := 33) C 0 0 0 dX6_kindOf_33 in_X6 rfl rfl (ci := 6) rfl (by decide) tw_76 rfl rfl ?_
  refine r_iload_n (pc := 36) C 2 dX6_kindOf_36 rfl rfl ?_
  refine r_aaload (pc := 37) C 0 1 dX6_kindOf_37 rfl rfl (by decide) (by omega) rfl ?_
  refine r_goto (pc := 38) (tgt := 47) C dX6_kindOf_38 (by decide) ?_
  exact r_aret (pc := 47) C hQ (n := "CoinsAreDoves$Dove") rfl dX6_kindOf_47 rfl (jst_ra (by rfl))

set_option maxRecDepth 100000 in
set_option maxHeartbeats 4000000 in
theorem c_X6_kindOf1 (l : Launch) (G : GT) (h : Nat → Nat) (T : Tn) (d : Int) (hI : IT T) (hd : 0 ≤ d ∧ d < T 0 1) (hk : T 3 d = 1) : Cn l yX6_kindOf cX6_kindOf 3 (Option.some (.object "CoinsAreDoves$Dove")) ({ frames := 1, cells := 0, slots := 0, locals := 21 }) G [.ref (h 0), .int (iI d)] (wT G h T) (jst (some (.ref (h 10))) (wT G h T)) := by
  refine Cn_in RX6 [some (.ref (h 0)), some (.int (iI d)), none] (by decide +kernel) rfl rfl rfl (Nat.le_of_ble_eq_true rfl) (fun K C hQ => ?_)
  have hBB := hI.b
  have hLL := hI.L
  have hDD := hI.D
  have hdd := hI.d hd.1 hd.2
  refine r_aload_n (pc := 0) C 0 dX6_kindOf_0 rfl rfl ?_
  refine r_iload_n (pc := 1) C 1 dX6_kindOf_1 rfl rfl ?_
  refine r_callV (pc := 2) (is := [0]) C YX6_hasDove dX6_kindOf_2 tw_423 (c_X6_hasDove l G _ _ _ (by first | assumption | omega | exact zand_rng _ _ | exact zor_rng _ _ | exact zxor_rng _ _ | exact BT.r (IT.b (by assumption)) _ _) (by first | assumption | omega | exact zand_rng _ _ | exact zor_rng _ _ | exact zxor_rng _ _ | exact BT.r (IT.b (by assumption)) _ _)) 0 0 rfl rfl (ci := 6) rfl rfl rfl (by decide) rfl rfl (Nat.le_of_ble_eq_true rfl) ⟨rfl, rfl, by decide, by decide⟩ (jst_i (T_uall ..) ?_)
  refine r_ifb_eq (pc := 5) (tgt := 17) C dX6_kindOf_5 (by decide) (fun c5 => absurd c5 (by omega)) (fun c5 => ?_)
  refine r_aload_n (pc := 8) C 0 dX6_kindOf_8 rfl rfl ?_
  refine r_get (pc := 9) C 0 0 3 dX6_kindOf_9 in_X6 rfl rfl (ci := 6) rfl (by decide) tw_81 rfl rfl ?_
  refine r_iload_n (pc := 12) C 1 dX6_kindOf_12 rfl rfl ?_
  refine r_ialoadE (pc := 13) C 0 4 dX6_kindOf_13 rfl rfl (by decide) (by omega) hk ?_
  refine r_goto (pc := 14) (tgt := 18) C dX6_kindOf_14 (by decide) ?_
  refine r_istore_n (pc := 18) C 2 dX6_kindOf_18 rfl (Nat.le_of_ble_eq_true rfl) ?_
  refine r_iload_n (pc := 19) C 2 dX6_kindOf_19 rfl rfl ?_
  refine r_if_lt (pc := 20) (tgt := 41) C dX6_kindOf_20 (by decide) (by first | omega | exact zand_rng _ _ | exact zor_rng _ _ | exact zxor_rng _ _ | exact BT.r (IT.b (by assumption)) _ _) (fun c20 => absurd c20 (by omega)) (fun c20 => ?_)
  refine r_iload_n (pc := 23) C 2 dX6_kindOf_23 rfl rfl ?_
  refine r_aload_n (pc := 24) C 0 dX6_kindOf_24 rfl rfl ?_
  refine r_get (pc := 25) C 0 0 0 dX6_kindOf_25 in_X6 rfl rfl (ci := 6) rfl (by decide) tw_76 rfl rfl ?_
  refine r_qlen (pc := 28) C 0 1 dX6_kindOf_28 rfl rfl ?_
  refine r_icmp_ge (pc := 29) (tgt := 41) C dX6_kindOf_29 (by decide) (by first | omega | exact zand_rng _ _ | exact zor_rng _ _ | exact zxor_rng _ _ | exact BT.r (IT.b (by assumption)) _ _) (by first | omega | exact zand_rng _ _ | exact zor_rng _ _ | exact zxor_rng _ _ | exact BT.r (IT.b (by assumption)) _ _) (fun c29 => absurd c29 (by omega)) (fun c29 => ?_)
  refine r_aload_n (pc := 32) C 0 dX6_kindOf_32 rfl rfl ?_
  refine r_get (pc := 33) C 0 0 0 dX6_kindOf_33 in_X6 rfl rfl (ci := 6) rfl (by decide) tw_76 rfl rfl ?_
  refine r_iload_n (pc := 36) C 2 dX6_kindOf_36 rfl rfl ?_
  refine r_aaload (pc := 37) C 0 1 dX6_kindOf_37 rfl rfl (by decide) (by omega) rfl ?_
  refine r_goto (pc := 38) (tgt := 47) C dX6_kindOf_38 (by decide) ?_
  exact r_aret (pc := 47) C hQ (n := "CoinsAreDoves$Dove") rfl dX6_kindOf_47 rfl (jst_ra (by rfl))

set_option maxRecDepth 100000 in
set_option maxHeartbeats 4000000 in
theorem c_X6_kindOf2 (l : Launch) (G : GT) (h : Nat → Nat) (T : Tn) (d : Int) (hI : IT T) (hd : 0 ≤ d ∧ d < T 0 1) (hk : T 3 d = 2) : Cn l yX6_kindOf cX6_kindOf 3 (Option.some (.object "CoinsAreDoves$Dove")) ({ frames := 1, cells := 0, slots := 0, locals := 21 }) G [.ref (h 0), .int (iI d)] (wT G h T) (jst (some (.ref (h 11))) (wT G h T)) := by
  refine Cn_in RX6 [some (.ref (h 0)), some (.int (iI d)), none] (by decide +kernel) rfl rfl rfl (Nat.le_of_ble_eq_true rfl) (fun K C hQ => ?_)
  have hBB := hI.b
  have hLL := hI.L
  have hDD := hI.D
  have hdd := hI.d hd.1 hd.2
  refine r_aload_n (pc := 0) C 0 dX6_kindOf_0 rfl rfl ?_
  refine r_iload_n (pc := 1) C 1 dX6_kindOf_1 rfl rfl ?_
  refine r_callV (pc := 2) (is := [0]) C YX6_hasDove dX6_kindOf_2 tw_423 (c_X6_hasDove l G _ _ _ (by first | assumption | omega | exact zand_rng _ _ | exact zor_rng _ _ | exact zxor_rng _ _ | exact BT.r (IT.b (by assumption)) _ _) (by first | assumption | omega | exact zand_rng _ _ | exact zor_rng _ _ | exact zxor_rng _ _ | exact BT.r (IT.b (by assumption)) _ _)) 0 0 rfl rfl (ci := 6) rfl rfl rfl (by decide) rfl rfl (Nat.le_of_ble_eq_true rfl) ⟨rfl, rfl, by decide, by decide⟩ (jst_i (T_uall ..) ?_)
  refine r_ifb_eq (pc := 5) (tgt := 17) C dX6_kindOf_5 (by decide) (fun c5 => absurd c5 (by omega)) (fun c5 => ?_)
  refine r_aload_n (pc := 8) C 0 dX6_kindOf_8 rfl rfl ?_
  refine r_get (pc := 9) C 0 0 3 dX6_kindOf_9 in_X6 rfl rfl (ci := 6) rfl (by decide) tw_81 rfl rfl ?_
  refine r_iload_n (pc := 12) C 1 dX6_kindOf_12 rfl rfl ?_
  refine r_ialoadE (pc := 13) C 0 4 dX6_kindOf_13 rfl rfl (by decide) (by omega) hk ?_
  refine r_goto (pc := 14) (tgt := 18) C dX6_kindOf_14 (by decide) ?_
  refine r_istore_n (pc := 18) C 2 dX6_kindOf_18 rfl (Nat.le_of_ble_eq_true rfl) ?_
  refine r_iload_n (pc := 19) C 2 dX6_kindOf_19 rfl rfl ?_
  refine r_if_lt (pc := 20) (tgt := 41) C dX6_kindOf_20 (by decide) (by first | omega | exact zand_rng _ _ | exact zor_rng _ _ | exact zxor_rng _ _ | exact BT.r (IT.b (by assumption)) _ _) (fun c20 => absurd c20 (by omega)) (fun c20 => ?_)
  refine r_iload_n (pc := 23) C 2 dX6_kindOf_23 rfl rfl ?_
  refine r_aload_n (pc := 24) C 0 dX6_kindOf_24 rfl rfl ?_
  refine r_get (pc := 25) C 0 0 0 dX6_kindOf_25 in_X6 rfl rfl (ci := 6) rfl (by decide) tw_76 rfl rfl ?_
  refine r_qlen (pc := 28) C 0 1 dX6_kindOf_28 rfl rfl ?_
  refine r_icmp_ge (pc := 29) (tgt := 41) C dX6_kindOf_29 (by decide) (by first | omega | exact zand_rng _ _ | exact zor_rng _ _ | exact zxor_rng _ _ | exact BT.r (IT.b (by assumption)) _ _) (by first | omega | exact zand_rng _ _ | exact zor_rng _ _ | exact zxor_rng _ _ | exact BT.r (IT.b (by assumption)) _ _) (fun c29 => absurd c29 (by omega)) (fun c29 => ?_)
  refine r_aload_n (pc := 32) C 0 dX6_kindOf_32 rfl rfl ?_
  refine r_get (pc := 33) C 0 0 0 dX6_kindOf_33 in_X6 rfl rfl (ci := 6) rfl (by decide) tw_76 rfl rfl ?_
  refine r_iload_n (pc := 36) C 2 dX6_kindOf_36 rfl rfl ?_
  refine r_aaload (pc := 37) C 0 1 dX6_kindOf_37 rfl rfl (by decide) (by omega) rfl ?_
  refine r_goto (pc := 38) (tgt := 47) C dX6_kindOf_38 (by decide) ?_
  exact r_aret (pc := 47) C hQ (n := "CoinsAreDoves$Dove") rfl dX6_kindOf_47 rfl (jst_ra (by rfl))

set_option maxRecDepth 100000 in
set_option maxHeartbeats 4000000 in
theorem c_X6_kindOf3 (l : Launch) (G : GT) (h : Nat → Nat) (T : Tn) (d : Int) (hI : IT T) (hd : 0 ≤ d ∧ d < T 0 1) (hk : T 3 d = 3) : Cn l yX6_kindOf cX6_kindOf 3 (Option.some (.object "CoinsAreDoves$Dove")) ({ frames := 1, cells := 0, slots := 0, locals := 21 }) G [.ref (h 0), .int (iI d)] (wT G h T) (jst (some (.ref (h 12))) (wT G h T)) := by
  refine Cn_in RX6 [some (.ref (h 0)), some (.int (iI d)), none] (by decide +kernel) rfl rfl rfl (Nat.le_of_ble_eq_true rfl) (fun K C hQ => ?_)
  have hBB := hI.b
  have hLL := hI.L
  have hDD := hI.D
  have hdd := hI.d hd.1 hd.2
  refine r_aload_n (pc := 0) C 0 dX6_kindOf_0 rfl rfl ?_
  refine r_iload_n (pc := 1) C 1 dX6_kindOf_1 rfl rfl ?_
  refine r_callV (pc := 2) (is := [0]) C YX6_hasDove dX6_kindOf_2 tw_423 (c_X6_hasDove l G _ _ _ (by first | assumption | omega | exact zand_rng _ _ | exact zor_rng _ _ | exact zxor_rng _ _ | exact BT.r (IT.b (by assumption)) _ _) (by first | assumption | omega | exact zand_rng _ _ | exact zor_rng _ _ | exact zxor_rng _ _ | exact BT.r (IT.b (by assumption)) _ _)) 0 0 rfl rfl (ci := 6) rfl rfl rfl (by decide) rfl rfl (Nat.le_of_ble_eq_true rfl) ⟨rfl, rfl, by decide, by decide⟩ (jst_i (T_uall ..) ?_)
  refine r_ifb_eq (pc := 5) (tgt := 17) C dX6_kindOf_5 (by decide) (fun c5 => absurd c5 (by omega)) (fun c5 => ?_)
  refine r_aload_n (pc := 8) C 0 dX6_kindOf_8 rfl rfl ?_
  refine r_get (pc := 9) C 0 0 3 dX6_kindOf_9 in_X6 rfl rfl (ci := 6) rfl (by decide) tw_81 rfl rfl ?_
  refine r_iload_n (pc := 12) C 1 dX6_kindOf_12 rfl rfl ?_
  refine r_ialoadE (pc := 13) C 0 4 dX6_kindOf_13 rfl rfl (by decide) (by omega) hk ?_
  refine r_goto (pc := 14) (tgt := 18) C dX6_kindOf_14 (by decide) ?_
  refine r_istore_n (pc := 18) C 2 dX6_kindOf_18 rfl (Nat.le_of_ble_eq_true rfl) ?_
  refine r_iload_n (pc := 19) C 2 dX6_kindOf_19 rfl rfl ?_
  refine r_if_lt (pc := 20) (tgt := 41) C dX6_kindOf_20 (by decide) (by first | omega | exact zand_rng _ _ | exact zor_rng _ _ | exact zxor_rng _ _ | exact BT.r (IT.b (by assumption)) _ _) (fun c20 => absurd c20 (by omega)) (fun c20 => ?_)
  refine r_iload_n (pc := 23) C 2 dX6_kindOf_23 rfl rfl ?_
  refine r_aload_n (pc := 24) C 0 dX6_kindOf_24 rfl rfl ?_
  refine r_get (pc := 25) C 0 0 0 dX6_kindOf_25 in_X6 rfl rfl (ci := 6) rfl (by decide) tw_76 rfl rfl ?_
  refine r_qlen (pc := 28) C 0 1 dX6_kindOf_28 rfl rfl ?_
  refine r_icmp_ge (pc := 29) (tgt := 41) C dX6_kindOf_29 (by decide) (by first | omega | exact zand_rng _ _ | exact zor_rng _ _ | exact zxor_rng _ _ | exact BT.r (IT.b (by assumption)) _ _) (by first | omega | exact zand_rng _ _ | exact zor_rng _ _ | exact zxor_rng _ _ | exact BT.r (IT.b (by assumption)) _ _) (fun c29 => absurd c29 (by omega)) (fun c29 => ?_)
  refine r_aload_n (pc := 32) C 0 dX6_kindOf_32 rfl rfl ?_
  refine r_get (pc := 33) C 0 0 0 dX6_kindOf_33 in_X6 rfl rfl (ci := 6) rfl (by decide) tw_76 rfl rfl ?_
  refine r_iload_n (pc := 36) C 2 dX6_kindOf_36 rfl rfl ?_
  refine r_aaload (pc := 37) C 0 1 dX6_kindOf_37 rfl rfl (by decide) (by omega) rfl ?_
  refine r_goto (pc := 38) (tgt := 47) C dX6_kindOf_38 (by decide) ?_
  exact r_aret (pc := 47) C hQ (n := "CoinsAreDoves$Dove") rfl dX6_kindOf_47 rfl (jst_ra (by rfl))

set_option maxRecDepth 100000 in
set_option maxHeartbeats 4000000 in
theorem c_X6_kindOf4 (l : Launch) (G : GT) (h : Nat → Nat) (T : Tn) (d : Int) (hI : IT T) (hd : 0 ≤ d ∧ d < T 0 1) (hk : T 3 d = 4) : Cn l yX6_kindOf cX6_kindOf 3 (Option.some (.object "CoinsAreDoves$Dove")) ({ frames := 1, cells := 0, slots := 0, locals := 21 }) G [.ref (h 0), .int (iI d)] (wT G h T) (jst (some (.ref (h 13))) (wT G h T)) := by
  refine Cn_in RX6 [some (.ref (h 0)), some (.int (iI d)), none] (by decide +kernel) rfl rfl rfl (Nat.le_of_ble_eq_true rfl) (fun K C hQ => ?_)
  have hBB := hI.b
  have hLL := hI.L
  have hDD := hI.D
  have hdd := hI.d hd.1 hd.2
  refine r_aload_n (pc := 0) C 0 dX6_kindOf_0 rfl rfl ?_
  refine r_iload_n (pc := 1) C 1 dX6_kindOf_1 rfl rfl ?_
  refine r_callV (pc := 2) (is := [0]) C YX6_hasDove dX6_kindOf_2 tw_423 (c_X6_hasDove l G _ _ _ (by first | assumption | omega | exact zand_rng _ _ | exact zor_rng _ _ | exact zxor_rng _ _ | exact BT.r (IT.b (by assumption)) _ _) (by first | assumption | omega | exact zand_rng _ _ | exact zor_rng _ _ | exact zxor_rng _ _ | exact BT.r (IT.b (by assumption)) _ _)) 0 0 rfl rfl (ci := 6) rfl rfl rfl (by decide) rfl rfl (Nat.le_of_ble_eq_true rfl) ⟨rfl, rfl, by decide, by decide⟩ (jst_i (T_uall ..) ?_)
  refine r_ifb_eq (pc := 5) (tgt := 17) C dX6_kindOf_5 (by decide) (fun c5 => absurd c5 (by omega)) (fun c5 => ?_)
  refine r_aload_n (pc := 8) C 0 dX6_kindOf_8 rfl rfl ?_
  refine r_get (pc := 9) C 0 0 3 dX6_kindOf_9 in_X6 rfl rfl (ci := 6) rfl (by decide) tw_81 rfl rfl ?_
  refine r_iload_n (pc := 12) C 1 dX6_kindOf_12 rfl rfl ?_
  refine r_ialoadE (pc := 13) C 0 4 dX6_kindOf_13 rfl rfl (by decide) (by omega) hk ?_
  refine r_goto (pc := 14) (tgt := 18) C dX6_kindOf_14 (by decide) ?_
  refine r_istore_n (pc := 18) C 2 dX6_kindOf_18 rfl (Nat.le_of_ble_eq_true rfl) ?_
  refine r_iload_n (pc := 19) C 2 dX6_kindOf_19 rfl rfl ?_
  refine r_if_lt (pc := 20) (tgt := 41) C dX6_kindOf_20 (by decide) (by first | omega | exact zand_rng _ _ | exact zor_rng _ _ | exact zxor_rng _ _ | exact BT.r (IT.b (by assumption)) _ _) (fun c20 => absurd c20 (by omega)) (fun c20 => ?_)
  refine r_iload_n (pc := 23) C 2 dX6_kindOf_23 rfl rfl ?_
  refine r_aload_n (pc := 24) C 0 dX6_kindOf_24 rfl rfl ?_
  refine r_get (pc := 25) C 0 0 0 dX6_kindOf_25 in_X6 rfl rfl (ci := 6) rfl (by decide) tw_76 rfl rfl ?_
  refine r_qlen (pc := 28) C 0 1 dX6_kindOf_28 rfl rfl ?_
  refine r_icmp_ge (pc := 29) (tgt := 41) C dX6_kindOf_29 (by decide) (by first | omega | exact zand_rng _ _ | exact zor_rng _ _ | exact zxor_rng _ _ | exact BT.r (IT.b (by assumption)) _ _) (by first | omega | exact zand_rng _ _ | exact zor_rng _ _ | exact zxor_rng _ _ | exact BT.r (IT.b (by assumption)) _ _) (fun c29 => absurd c29 (by omega)) (fun c29 => ?_)
  refine r_aload_n (pc := 32) C 0 dX6_kindOf_32 rfl rfl ?_
  refine r_get (pc := 33) C 0 0 0 dX6_kindOf_33 in_X6 rfl rfl (ci := 6) rfl (by decide) tw_76 rfl rfl ?_
  refine r_iload_n (pc := 36) C 2 dX6_kindOf_36 rfl rfl ?_
  refine r_aaload (pc := 37) C 0 1 dX6_kindOf_37 rfl rfl (by decide) (by omega) rfl ?_
  refine r_goto (pc := 38) (tgt := 47) C dX6_kindOf_38 (by decide) ?_
  exact r_aret (pc := 47) C hQ (n := "CoinsAreDoves$Dove") rfl dX6_kindOf_47 rfl (jst_ra (by rfl))

set_option maxRecDepth 100000 in
set_option maxHeartbeats 4000000 in
theorem c_X6_kindOf5 (l : Launch) (G : GT) (h : Nat → Nat) (T : Tn) (d : Int) (hI : IT T) (hd : 0 ≤ d ∧ d < T 0 1) (hk : T 3 d = 5) : Cn l yX6_kindOf cX6_kindOf 3 (Option.some (.object "CoinsAreDoves$Dove")) ({ frames := 1, cells := 0, slots := 0, locals := 21 }) G [.ref (h 0), .int (iI d)] (wT G h T) (jst (some (.ref (h 14))) (wT G h T)) := by
  refine Cn_in RX6 [some (.ref (h 0)), some (.int (iI d)), none] (by decide +kernel) rfl rfl rfl (Nat.le_of_ble_eq_true rfl) (fun K C hQ => ?_)
  have hBB := hI.b
  have hLL := hI.L
  have hDD := hI.D
  have hdd := hI.d hd.1 hd.2
  refine r_aload_n (pc := 0) C 0 dX6_kindOf_0 rfl rfl ?_
  refine r_iload_n (pc := 1) C 1 dX6_kindOf_1 rfl rfl ?_
  refine r_callV (pc := 2) (is := [0]) C YX6_hasDove dX6_kindOf_2 tw_423 (c_X6_hasDove l G _ _ _ (by first | assumption | omega | exact zand_rng _ _ | exact zor_rng _ _ | exact zxor_rng _ _ | exact BT.r (IT.b (by assumption)) _ _) (by first | assumption | omega | exact zand_rng _ _ | exact zor_rng _ _ | exact zxor_rng _ _ | exact BT.r (IT.b (by assumption)) _ _)) 0 0 rfl rfl (ci := 6) rfl rfl rfl (by decide) rfl rfl (Nat.le_of_ble_eq_true rfl) ⟨rfl, rfl, by decide, by decide⟩ (jst_i (T_uall ..) ?_)
  refine r_ifb_eq (pc := 5) (tgt := 17) C dX6_kindOf_5 (by decide) (fun c5 => absurd c5 (by omega)) (fun c5 => ?_)
  refine r_aload_n (pc := 8) C 0 dX6_kindOf_8 rfl rfl ?_
  refine r_get (pc := 9) C 0 0 3 dX6_kindOf_9 in_X6 rfl rfl (ci := 6) rfl (by decide) tw_81 rfl rfl ?_
  refine r_iload_n (pc := 12) C 1 dX6_kindOf_12 rfl rfl ?_
  refine r_ialoadE (pc := 13) C 0 4 dX6_kindOf_13 rfl rfl (by decide) (by omega) hk ?_
  refine r_goto (pc := 14) (tgt := 18) C dX6_kindOf_14 (by decide) ?_
  refine r_istore_n (pc := 18) C 2 dX6_kindOf_18 rfl (Nat.le_of_ble_eq_true rfl) ?_
  refine r_iload_n (pc := 19) C 2 dX6_kindOf_19 rfl rfl ?_
  refine r_if_lt (pc := 20) (tgt := 41) C dX6_kindOf_20 (by decide) (by first | omega | exact zand_rng _ _ | exact zor_rng _ _ | exact zxor_rng _ _ | exact BT.r (IT.b (by assumption)) _ _) (fun c20 => absurd c20 (by omega)) (fun c20 => ?_)
  refine r_iload_n (pc := 23) C 2 dX6_kindOf_23 rfl rfl ?_
  refine r_aload_n (pc := 24) C 0 dX6_kindOf_24 rfl rfl ?_
  refine r_get (pc := 25) C 0 0 0 dX6_kindOf_25 in_X6 rfl rfl (ci := 6) rfl (by decide) tw_76 rfl rfl ?_
  refine r_qlen (pc := 28) C 0 1 dX6_kindOf_28 rfl rfl ?_
  refine r_icmp_ge (pc := 29) (tgt := 41) C dX6_kindOf_29 (by decide) (by first | omega | exact zand_rng _ _ | exact zor_rng _ _ | exact zxor_rng _ _ | exact BT.r (IT.b (by assumption)) _ _) (by first | omega | exact zand_rng _ _ | exact zor_rng _ _ | exact zxor_rng _ _ | exact BT.r (IT.b (by assumption)) _ _) (fun c29 => absurd c29 (by omega)) (fun c29 => ?_)
  refine r_aload_n (pc := 32) C 0 dX6_kindOf_32 rfl rfl ?_
  refine r_get (pc := 33) C 0 0 0 dX6_kindOf_33 in_X6 rfl rfl (ci := 6) rfl (by decide) tw_76 rfl rfl ?_
  refine r_iload_n (pc := 36) C 2 dX6_kindOf_36 rfl rfl ?_
  refine r_aaload (pc := 37) C 0 1 dX6_kindOf_37 rfl rfl (by decide) (by omega) rfl ?_
  refine r_goto (pc := 38) (tgt := 47) C dX6_kindOf_38 (by decide) ?_
  exact r_aret (pc := 47) C hQ (n := "CoinsAreDoves$Dove") rfl dX6_kindOf_47 rfl (jst_ra (by rfl))

