/-! a dove's own fate -/
def sFl (U : Tn) (d : Int) : Int := if U 6 d ≠ 9 ∧ U 7 d = 0 ∧ zbit (U 0 2) (U 6 d) = 1 then (if sFly U d = 9 then U 6 d else if U 0 3 < sWay U (U 6 d) (sFly U d) then 9 else sFly U d) else U 6 d
def sSd (U V : Tn) (d : Int) : Prop := (U 0 0 = V 0 0 ∧ U 0 2 = V 0 2 ∧ U 0 3 = V 0 3 ∧ U 0 4 = V 0 4) ∧ (U 1 = V 1 ∧ U 2 = V 2) ∧ (U 3 d = V 3 d ∧ U 4 d = V 4 d ∧ U 5 d = V 5 d ∧ U 6 d = V 6 d ∧ U 7 d = V 7 d)
theorem sWay_cg {U V : Tn} (h1 : U 1 = V 1) (h2 : U 2 = V 2) (a b : Int) : sWay U a b = sWay V a b := by
  unfold sWay
  rw [h1, h2]
theorem sNear_cg {U V : Tn} (h1 : U 1 = V 1) (h2 : U 2 = V 2) (f i : Int) : sNear U f i = sNear V f i := by
  unfold sNear
  exact it_cg (fun j x _ _ => by rw [sWay_cg h1 h2, sWay_cg h1 h2])
theorem sFly_cg {U V : Tn} {d : Int} (h0 : U 0 0 = V 0 0) (h1 : U 1 = V 1) (h2 : U 2 = V 2) (h3 : U 3 d = V 3 d) (h4 : U 4 d = V 4 d) (h5 : U 5 d = V 5 d) (h6 : U 6 d = V 6 d) : sFly U d = sFly V d := by
  unfold sFly sAim
  rw [h0, h3, h4, h5, h6, sWay_cg h1 h2, sNear_cg h1 h2]
theorem sFl_cg {U V : Tn} {d : Int} (h : sSd U V d) : sFl U d = sFl V d := by
  obtain ⟨⟨a0, a2, a3, a4⟩, ⟨b1, b2⟩, c3, c4, c5, c6, c7⟩ := h
  unfold sFl
  rw [sFly_cg a0 b1 b2 c3 c4 c5 c6, c6, c7, a2, a3, sWay_cg b1 b2]
theorem sFlyS_d {T : Tn} (h : IT T) {d : Int} (hd : 0 ≤ d ∧ d < T 0 1) : ∀ n : Nat, (n : Int) ≤ T 0 1 → sFlyS T n 6 d = if d < n then sFl T d else T 6 d := by
  intro n
  induction n with
  | zero =>
    intro _
    rw [if_neg (by omega)]
    rfl
  | succ n ih =>
    intro hb
    have ih := ih (by omega)
    obtain ⟨-, ea, -⟩ := sFlyS_p h (i := n) (by omega) (by omega)
    rw [show ((n + 1 : Nat) : Int) = (n : Int) + 1 by omega, sFlyS_s T (by omega)]
    by_cases e : (n : Int) = d
    · subst e
      have e6 : sFlyS T n 6 n = T 6 n := by rw [ih, if_neg (by omega)]
      have ef : sFly (sFlyS T n) n = sFly T n := sFly_cg (by rw [ea 0 (by decide)]) (ea 1 (by decide)) (ea 2 (by decide)) (by rw [ea 3 (by decide)]) (by rw [ea 4 (by decide)]) (by rw [ea 5 (by decide)]) e6
      have ew : ∀ x y, sWay (sFlyS T n) x y = sWay T x y := fun x y => sWay_cg (ea 1 (by decide)) (ea 2 (by decide)) x y
      rw [if_pos (show (n : Int) < n + 1 by omega)]
      unfold sFl
      rw [e6, ea 7 (by decide), ea 0 (by decide)]
      by_cases c : T 6 n ≠ 9 ∧ T 7 n = 0 ∧ zbit (T 0 2) (T 6 n) = 1
      · rw [if_pos c, if_pos c]
        unfold sGo
        rw [ef, e6, ew]
        by_cases q : sFly T n = 9
        · rw [if_pos q, if_pos q]
          exact e6
        · rw [if_neg q, if_neg q, up_s]
      · rw [if_neg c, if_neg c]
        exact e6
    · have hs : (if sFlyS T n 6 n ≠ 9 ∧ sFlyS T n 7 n = 0 ∧ zbit (sFlyS T n 0 2) (sFlyS T n 6 n) = 1 then sGo (sFlyS T n) n (sFlyS T n 0 3) else sFlyS T n) 6 d = sFlyS T n 6 d := by
        split
        · unfold sGo
          split
          · rfl
          · exact up_z (fun q => e q.symm)
        · rfl
      rw [hs, ih]
      by_cases q : d < n
      · rw [if_pos q, if_pos (show d < (n : Int) + 1 by omega)]
      · rw [if_neg q, if_neg (show ¬ d < (n : Int) + 1 by omega)]
theorem sClipS_d {T : Tn} {d : Int} (hd : 0 ≤ d) : ∀ n : Nat, sClipS T n 7 d = if d < n then (if 0 < T 7 d then T 7 d - 1 else T 7 d) else T 7 d := by
  intro n
  induction n with
  | zero =>
    rw [if_neg (by omega)]
    rfl
  | succ n ih =>
    rw [show ((n + 1 : Nat) : Int) = (n : Int) + 1 by omega, sClipS_s T (by omega)]
    by_cases e : (n : Int) = d
    · subst e
      have e7 : sClipS T n 7 n = T 7 n := by rw [ih, if_neg (by omega)]
      rw [if_pos (show (n : Int) < n + 1 by omega), e7]
      by_cases c : 0 < T 7 n
      · rw [if_pos c, if_pos c, up_s]
      · rw [if_neg c, if_neg c]
        exact e7
    · have hs : (if 0 < sClipS T n 7 n then up (sClipS T n) 7 n (sClipS T n 7 n - 1) else sClipS T n) 7 d = sClipS T n 7 d := by
        split
        · exact up_z (fun q => e q.symm)
        · rfl
      rw [hs, ih]
      by_cases q : d < n
      · rw [if_pos q, if_pos (show d < (n : Int) + 1 by omega)]
      · rw [if_neg q, if_neg (show ¬ d < (n : Int) + 1 by omega)]
theorem sAgeS_d {T : Tn} {d : Int} (hd : 0 ≤ d) : ∀ n : Nat, sAgeS T n 5 d = if d < n then (if T 5 d < 9 then T 5 d + 1 else T 5 d) else T 5 d := by
  intro n
  induction n with
  | zero =>
    rw [if_neg (by omega)]
    rfl
  | succ n ih =>
    rw [show ((n + 1 : Nat) : Int) = (n : Int) + 1 by omega, sAgeS_s T (by omega)]
    by_cases e : (n : Int) = d
    · subst e
      have e5 : sAgeS T n 5 n = T 5 n := by rw [ih, if_neg (by omega)]
      rw [if_pos (show (n : Int) < n + 1 by omega), e5]
      by_cases c : T 5 n < 9
      · rw [if_pos c, if_pos c, up_s]
      · rw [if_neg c, if_neg c]
        exact e5
    · have hs : (if sAgeS T n 5 n < 9 then up (sAgeS T n) 5 n (sAgeS T n 5 n + 1) else sAgeS T n) 5 d = sAgeS T n 5 d := by
        split
        · exact up_z (fun q => e q.symm)
        · rfl
      rw [hs, ih]
      by_cases q : d < n
      · rw [if_pos q, if_pos (show d < (n : Int) + 1 by omega)]
      · rw [if_neg q, if_neg (show ¬ d < (n : Int) + 1 by omega)]
def aLettC (G : GT) (a : Nat → Nat) (X N M P S : Tn) (z : Int) : Option Value → List va_W → Prop := fun o g => if 0 ≤ z ∧ z < N 0 0 then o = some (.int (iI (sPurse (sLet N (N 0 1)) z (N 0 1) - sPurse N z (N 0 1)))) ∧ ∃ M', g = wC G a X N M' P S else o = some (.int (iI 1000000001)) ∧ g = wC G a (xrf X (-1)) N M P S
set_option maxRecDepth 100000 in
set_option maxHeartbeats 4000000 in
theorem c_X8_letting (l : Launch) (G : GT) (a : Nat → Nat) (X N M P S : Tn) (z : Int) (hI : IT N) (hX : IX X S) (hk9 : N 0 4 ≤ 999) (gz : -2147483648 ≤ z ∧ z < 2147483648) : Cn l yX8_letting cX8_letting 2 (Option.some .int) ({ frames := 6, cells := 0, slots := 0, locals := 140 }) G [.ref (a 0), .int (iI z)] (wC G a X N M P S) (aLettC G a X N M P S z) := by
  refine Cn_in RX8 [some (.ref (a 0)), some (.int (iI z))] (by decide +kernel) rfl rfl rfl (Nat.le_of_ble_eq_true rfl) (fun K C hQ => ?_)
  obtain ⟨x1, s1, x3, s6, x8⟩ := hX
  have hBB := hI.b
  have hLL := hI.L
  have hDD := hI.D
  have hkk := hI.k
  refine r_aload_n (pc := 0) C 0 dX8_letting_0 rfl rfl ?_
  refine r_get (pc := 1) C 0 0 0 dX8_letting_1 in_X8 rfl rfl (ci := 8) rfl (by decide) tw_143 rfl rfl ?_
  refine r_iload_n (pc := 4) C 1 dX8_letting_4 rfl rfl ?_
  refine r_callV (pc := 5) (is := [1]) C YX6_hasLoft dX8_letting_5 tw_399 (c_X6_hasLoft l G _ _ _ (by first | assumption | omega | exact zand_rng _ _ | exact zor_rng _ _ | exact zxor_rng _ _ | exact BT.r (IT.b (by assumption)) _ _) (by first | assumption | omega | exact zand_rng _ _ | exact zor_rng _ _ | exact zxor_rng _ _ | exact BT.r (IT.b (by assumption)) _ _)) 1 0 rfl rfl (ci := 6) rfl rfl rfl (by decide) rfl rfl (Nat.le_of_ble_eq_true rfl) ⟨rfl, rfl, by decide, by decide⟩ (jst_i (C_u1 ..) ?_)
  refine r_ifb_ne (pc := 8) (tgt := 20) C dX8_letting_8 (by decide) (fun c8 => ?_) (fun c8 => ?_)
  · refine r_aload_n (pc := 20) C 0 dX8_letting_20 rfl rfl ?_
    refine r_get (pc := 21) C 0 0 1 dX8_letting_21 in_X8 rfl rfl (ci := 8) rfl (by decide) tw_144 rfl rfl ?_
    refine r_aload_n (pc := 24) C 0 dX8_letting_24 rfl rfl ?_
    refine r_get (pc := 25) C 0 0 0 dX8_letting_25 in_X8 rfl rfl (ci := 8) rfl (by decide) tw_143 rfl rfl ?_
    refine r_callV (pc := 28) (is := [2, 1]) C YX6_become dX8_letting_28 tw_343 (c_X6_become l G _ _ _ _) 2 0 rfl rfl (ci := 6) rfl rfl rfl (by decide) rfl rfl (Nat.le_of_ble_eq_true rfl) ⟨rfl, rfl, by decide, by decide⟩ (jst_v (C_u2_1 ..) ?_)
    refine r_aload_n (pc := 31) C 0 dX8_letting_31 rfl rfl ?_
    refine r_get (pc := 32) C 0 0 1 dX8_letting_32 in_X8 rfl rfl (ci := 8) rfl (by decide) tw_144 rfl rfl ?_
    refine r_callV (pc := 35) (is := [2]) C YX6_letAllGo dX8_letting_35 tw_605 (c_X6_letAllGo l G _ _ (by first | assumption | omega | exact zand_rng _ _ | exact zor_rng _ _ | exact zxor_rng _ _ | exact BT.r (IT.b (by assumption)) _ _)) 2 0 rfl rfl (ci := 6) rfl rfl rfl (by decide) rfl rfl (Nat.le_of_ble_eq_true rfl) ⟨rfl, rfl, by decide, by decide⟩ (jst_v (C_u2 ..) ?_)
    obtain ⟨hU, hU2⟩ := sLet_p hI hDD.1 (Int.le_refl _)
    have e1 : sLet N (N 0 1) 0 1 = N 0 1 := by rw [hU2 0 (by decide)]
    refine r_aload_n (pc := 38) C 0 dX8_letting_38 rfl rfl ?_
    refine r_get (pc := 39) C 0 0 1 dX8_letting_39 in_X8 rfl rfl (ci := 8) rfl (by decide) tw_144 rfl rfl ?_
    refine r_iload_n (pc := 42) C 1 dX8_letting_42 rfl rfl ?_
    refine r_callV (pc := 43) (is := [2]) C YX6_purseOf dX8_letting_43 tw_407 (c_X6_purseOf l G _ _ _ (by first | assumption | omega | exact zand_rng _ _ | exact zor_rng _ _ | exact zxor_rng _ _ | exact BT.r (IT.b (by assumption)) _ _) (by first | assumption | omega | exact zand_rng _ _ | exact zor_rng _ _ | exact zxor_rng _ _ | exact BT.r (IT.b (by assumption)) _ _)) 2 0 rfl rfl (ci := 6) rfl rfl rfl (by decide) rfl rfl (Nat.le_of_ble_eq_true rfl) ⟨rfl, rfl, by decide, by decide⟩ (jst_i (C_u2 ..) ?_)
    refine r_aload_n (pc := 46) C 0 dX8_letting_46 rfl rfl ?_
    refine r_get (pc := 47) C 0 0 0 dX8_letting_47 in_X8 rfl rfl (ci := 8) rfl (by decide) tw_143 rfl rfl ?_
    refine r_iload_n (pc := 50) C 1 dX8_letting_50 rfl rfl ?_
    refine r_callV (pc := 51) (is := [1]) C YX6_purseOf dX8_letting_51 tw_407 (c_X6_purseOf l G _ _ _ (by first | assumption | omega | exact zand_rng _ _ | exact zor_rng _ _ | exact zxor_rng _ _ | exact BT.r (IT.b (by assumption)) _ _) (by first | assumption | omega | exact zand_rng _ _ | exact zor_rng _ _ | exact zxor_rng _ _ | exact BT.r (IT.b (by assumption)) _ _)) 1 0 rfl rfl (ci := 6) rfl rfl rfl (by decide) rfl rfl (Nat.le_of_ble_eq_true rfl) ⟨rfl, rfl, by decide, by decide⟩ (jst_i (C_u1 ..) ?_)
    refine r_isub (pc := 54) C dX8_letting_54 ?_
    exact r_iret (pc := 55) C hQ dX8_letting_55 rfl (by unfold aLettC; rw [if_pos c8]; exact ⟨by rw [e1], _, rfl⟩)
  · refine r_ldc (pc := 11) C dX8_letting_11 (n := 1000000000) tw_604 (by decide) ?_
    refine r_aload_n (pc := 13) C 0 dX8_letting_13 rfl rfl ?_
    refine r_iconst (pc := 14) C dX8_letting_14 ?_
    refine r_callV (pc := 15) (is := [0, 1, 2, 3, 4]) C YX8_refuse dX8_letting_15 tw_185 (c_X8_refuse l G _ _ _ _ _ _ _ (by first | assumption | omega | exact zand_rng _ _ | exact zor_rng _ _ | exact zxor_rng _ _ | exact BT.r (IT.b (by assumption)) _ _)) 0 0 rfl rfl (ci := 8) rfl rfl rfl (by decide) rfl rfl (Nat.le_of_ble_eq_true rfl) ⟨rfl, rfl, by decide, by decide⟩ (jst_i (C_uall ..) ?_)
    refine r_isub (pc := 18) C dX8_letting_18 ?_
    exact r_iret (pc := 19) C hQ dX8_letting_19 rfl (by unfold aLettC; rw [if_neg c8]; exact ⟨rfl, rfl⟩)

set_option maxRecDepth 100000 in
set_option maxHeartbeats 4000000 in
theorem c_X8_refusalsCounted (l : Launch) (G : GT) (a : Nat → Nat) (X N M P S : Tn) (w : Int) (gw : -2147483648 ≤ w ∧ w < 2147483648) : Cn l yX8_refusalsCounted cX8_refusalsCounted 2 (Option.some .int) ({ frames := 0, cells := 0, slots := 0, locals := 0 }) G [.ref (a 0), .int (iI w)] (wC G a X N M P S) (jst (some (.int (iI (if 0 < w ∧ w < 7 then X 4 w else -9)))) (wC G a X N M P S)) := by
  refine Cn_in RX8 [some (.ref (a 0)), some (.int (iI w))] (by decide +kernel) rfl rfl rfl (Nat.le_of_ble_eq_true rfl) (fun K C hQ => ?_)
  refine r_iload_n (pc := 0) C 1 dX8_refusalsCounted_0 rfl rfl ?_
  refine r_if_le (pc := 1) (tgt := 22) C dX8_refusalsCounted_1 (by decide) (by first | omega | exact zand_rng _ _ | exact zor_rng _ _ | exact zxor_rng _ _ | exact BT.r (IT.b (by assumption)) _ _) (fun c1 => ?_) (fun c1 => ?_)
  · refine r_bipush (pc := 22) C dX8_refusalsCounted_22 (by decide) ?_
    exact r_iret (pc := 24) C hQ dX8_refusalsCounted_24 rfl (jst_ri (by first | rw [if_pos (by omega)] | rw [if_neg (by omega)]) rfl)
  · refine r_iload_n (pc := 4) C 1 dX8_refusalsCounted_4 rfl rfl ?_
    refine r_aload_n (pc := 5) C 0 dX8_refusalsCounted_5 rfl rfl ?_
    refine r_get (pc := 6) C 0 0 7 dX8_refusalsCounted_6 in_X8 rfl rfl (ci := 8) rfl (by decide) tw_150 rfl rfl ?_
    refine r_ilen (pc := 9) C 0 4 dX8_refusalsCounted_9 rfl rfl ?_
    refine r_icmp_ge (pc := 10) (tgt := 22) C dX8_refusalsCounted_10 (by decide) (by first | omega | exact zand_rng _ _ | exact zor_rng _ _ | exact zxor_rng _ _ | exact BT.r (IT.b (by assumption)) _ _) (by first | omega | exact zand_rng _ _ | exact zor_rng _ _ | exact zxor_rng _ _ | exact BT.r (IT.b (by assumption)) _ _) (fun c10 => ?_) (fun c10 => ?_)
    · refine r_bipush (pc := 22) C dX8_refusalsCounted_22 (by decide) ?_
      exact r_iret (pc := 24) C hQ dX8_refusalsCounted_24 rfl (jst_ri (by first | rw [if_pos (by omega)] | rw [if_neg (by omega)]) rfl)
    · refine r_aload_n (pc := 13) C 0 dX8_refusalsCounted_13 rfl rfl ?_
      refine r_get (pc := 14) C 0 0 7 dX8_refusalsCounted_14 in_X8 rfl rfl (ci := 8) rfl (by decide) tw_150 rfl rfl ?_
      refine r_iload_n (pc := 17) C 1 dX8_refusalsCounted_17 rfl rfl ?_
      refine r_iaload (pc := 18) C 0 4 dX8_refusalsCounted_18 rfl rfl (by decide) (by omega) ?_
      refine r_goto (pc := 19) (tgt := 24) C dX8_refusalsCounted_19 (by decide) ?_
      exact r_iret (pc := 24) C hQ dX8_refusalsCounted_24 rfl (jst_ri (by first | rw [if_pos (by omega)] | rw [if_neg (by omega)]) rfl)

