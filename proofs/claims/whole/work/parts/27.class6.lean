theorem sSm_rr (f : Int → Int) (T : Tn) {m : Int} (h0 : 0 ≤ m) (h8 : m ≤ 8) : 0 ≤ sSm f T m ∧ sSm f T m ≤ 8 := by
  have := sSm_c f T h0
  omega
theorem sSm_told (f : Int → Int) (T : Tn) {m : Int} (h0 : 0 ≤ m) : sSm f T m = m ↔ sTold T f m := by
  constructor
  · intro h
    rcases sSm_c f T h0 with ⟨-, a2⟩ | ⟨a1, a2, -⟩
    · exact a2
    · omega
  · intro h
    exact sSm_y h0 h
theorem sHit_k {T : Tn} {f : Int → Int} {d z : Int} (hz : 0 ≤ z ∧ z < 10) : sHit T f (10 * d + z) ↔ (z < T 0 0 ∧ T 6 d ≠ 9 ∧ T 6 d ≠ z ∧ sTold (sDusk (up T 6 d z)) f (T 0 1)) := by
  unfold sHit
  rw [show (10 * d + z) % 10 = z by omega, show (10 * d + z) / 10 = d by omega]
theorem sP_or (T : Tn) (f : Int → Int) {k : Int} (h : 0 ≤ k) : ((sPN T f k = 0 ∧ sPF T f k = -9) ∨ (0 < sPN T f k ∧ 0 ≤ sPF T f k ∧ sPF T f k < k)) ∧ sPN T f k ≤ k := by
  obtain ⟨n, rfl⟩ : ∃ n : Nat, k = (n : Int) := ⟨k.toNat, by omega⟩
  clear h
  induction n with
  | zero => exact ⟨Or.inl ⟨rfl, rfl⟩, Int.le_refl _⟩
  | succ n ih =>
    rw [show ((n + 1 : Nat) : Int) = (n : Int) + 1 by omega, sPN_s T f (by omega)]
    by_cases q : sHit T f n
    · rw [sPF_y (by omega) q, zc_t q]
      by_cases e : sPF T f n < 0
      · rw [if_pos e]
        omega
      · rw [if_neg e]
        omega
    · rw [sPF_n (by omega) q, zc_f q]
      omega
theorem sP_gap {T : Tn} {f : Int → Int} {d : Int} (h0 : 0 ≤ d) (hL : 0 ≤ T 0 0 ∧ T 0 0 ≤ 6) : sPN T f (10 * (d + 1)) = sPN T f (10 * d + T 0 0) ∧ sPF T f (10 * (d + 1)) = sPF T f (10 * d + T 0 0) := by
  have H : ∀ n : Nat, T 0 0 + n ≤ 10 → sPN T f (10 * d + T 0 0 + n) = sPN T f (10 * d + T 0 0) ∧ sPF T f (10 * d + T 0 0 + n) = sPF T f (10 * d + T 0 0) := by
    intro n
    induction n with
    | zero =>
      intro _
      rw [show 10 * d + T 0 0 + ((0 : Nat) : Int) = 10 * d + T 0 0 by omega]
      exact ⟨rfl, rfl⟩
    | succ n ih =>
      intro hb
      have ih := ih (by omega)
      have hn : ¬ sHit T f (10 * d + T 0 0 + n) := by
        rw [show 10 * d + T 0 0 + (n : Int) = 10 * d + (T 0 0 + n) by omega, sHit_k (by omega)]
        intro q
        have := q.1
        omega
      rw [show 10 * d + T 0 0 + ((n + 1 : Nat) : Int) = (10 * d + T 0 0 + n) + 1 by omega, sPN_s T f (by omega), sPF_n (by omega) hn, zc_f hn, Int.add_zero]
      exact ih
  have := H (10 - T 0 0).toNat (by omega)
  rw [show 10 * d + T 0 0 + ((10 - T 0 0).toNat : Int) = 10 * (d + 1) by omega] at this
  exact this
def aMk (G : GT) (a : Nat → Nat) (X N P S : Tn) (v : Int) : Option Value → List va_W → Prop := fun o g => o = some (.int (iI v)) ∧ ∃ M', g = wC G a X N M' P S
set_option maxRecDepth 100000 in
set_option maxHeartbeats 4000000 in
theorem c_X8_judge (l : Launch) (G : GT) (a : Nat → Nat) (X N M P S : Tn) (hI : IT N) (hX : IX X S) : Cn l yX8_judge cX8_judge 3 (Option.some .int) ({ frames := 1, cells := 0, slots := 0, locals := 23 }) G [.ref (a 0)] (wC G a X N M P S) (jst (some (.int (iI (v_judge N (X 1) (X 0 0))))) (wC G a (up X 0 0 0) N M P S)) := by
  refine Cn_in RX8 [some (.ref (a 0)), none, none] (by decide +kernel) rfl rfl rfl (Nat.le_of_ble_eq_true rfl) (fun K C hQ => ?_)
  obtain ⟨x1, s1, x3, s6, x8⟩ := hX
  have hBB := hI.b
  have hLL := hI.L
  have hDD := hI.D
  have hkk := hI.k
  refine r_aload_n (pc := 0) C 0 dX8_judge_0 rfl rfl ?_
  refine r_aload_n (pc := 1) C 0 dX8_judge_1 rfl rfl ?_
  refine r_get (pc := 2) C 0 0 0 dX8_judge_2 in_X8 rfl rfl (ci := 8) rfl (by decide) tw_143 rfl rfl ?_
  refine r_aload_n (pc := 5) C 0 dX8_judge_5 rfl rfl ?_
  refine r_get (pc := 6) C 0 0 8 dX8_judge_6 in_X8 rfl rfl (ci := 8) rfl (by decide) tw_151 rfl rfl ?_
  refine r_aload_n (pc := 9) C 0 dX8_judge_9 rfl rfl ?_
  refine r_get (pc := 10) C 0 0 0 dX8_judge_10 in_X8 rfl rfl (ci := 8) rfl (by decide) tw_143 rfl rfl ?_
  refine r_get (pc := 13) C 1 0 9 dX8_judge_13 in_X6 rfl rfl (ci := 6) rfl (by decide) tw_94 rfl rfl ?_
  refine r_min (pc := 16) C dX8_judge_16 tw_699 tw_303 tw_15 tw_304 (Nat.le_of_ble_eq_true rfl) (by decide) (by first | omega | exact zand_rng _ _ | exact zor_rng _ _ | exact zxor_rng _ _ | exact BT.r (IT.b (by assumption)) _ _) (by first | omega | exact zand_rng _ _ | exact zor_rng _ _ | exact zxor_rng _ _ | exact BT.r (IT.b (by assumption)) _ _) ?_
  refine r_callV (pc := 19) (is := [0, 1, 2, 3, 4]) C YX8_sameAsRow dX8_judge_19 tw_691 (c_X8_sameAsRow1 l G _ _ _ _ _ _ _ (by first | assumption | omega | exact zand_rng _ _ | exact zor_rng _ _ | exact zxor_rng _ _ | exact BT.r (IT.b (by assumption)) _ _) (by first | assumption | omega | exact zand_rng _ _ | exact zor_rng _ _ | exact zxor_rng _ _ | exact BT.r (IT.b (by assumption)) _ _) (by split <;> omega)) 0 0 rfl rfl (ci := 8) rfl rfl rfl (by decide) rfl rfl (Nat.le_of_ble_eq_true rfl) ⟨rfl, rfl, by decide, by decide⟩ (jst_i (C_uall ..) ?_)
  have hvj := v_judge_is (T := N) (f := X 1) x3.1 hDD.1
  have hkr := sSm_rr (X 1) N (m := if N 0 1 < X 0 0 then N 0 1 else X 0 0) (by split <;> omega) (by split <;> omega)
  generalize sSm (X 1) N (if N 0 1 < X 0 0 then N 0 1 else X 0 0) = k9 at hvj hkr ⊢
  refine r_istore_n (pc := 22) C 1 dX8_judge_22 rfl (Nat.le_of_ble_eq_true rfl) ?_
  refine r_iload_n (pc := 23) C 1 dX8_judge_23 rfl rfl ?_
  refine r_aload_n (pc := 24) C 0 dX8_judge_24 rfl rfl ?_
  refine r_get (pc := 25) C 0 0 8 dX8_judge_25 in_X8 rfl rfl (ci := 8) rfl (by decide) tw_151 rfl rfl ?_
  refine r_icmp_ne (pc := 28) (tgt := 47) C dX8_judge_28 (by decide) (by first | omega | exact zand_rng _ _ | exact zor_rng _ _ | exact zxor_rng _ _ | exact BT.r (IT.b (by assumption)) _ _) (by first | omega | exact zand_rng _ _ | exact zor_rng _ _ | exact zxor_rng _ _ | exact BT.r (IT.b (by assumption)) _ _) (fun c28 => ?_) (fun c28 => ?_)
  · refine r_iload_n (pc := 47) C 1 dX8_judge_47 rfl rfl ?_
    refine r_istore_n (pc := 48) C 2 dX8_judge_48 rfl (Nat.le_of_ble_eq_true rfl) ?_
    refine r_aload_n (pc := 49) C 0 dX8_judge_49 rfl rfl ?_
    refine r_iconst (pc := 50) C dX8_judge_50 ?_
    refine r_put (pc := 51) C 0 0 8 dX8_judge_51 in_X8 tyX8_ok nmX8 rfl rfl (ci := 8) rfl (by decide) tw_151 rfl rfl (tyX8_ok 8 (by decide)) rfl rfl (Nat.le_of_ble_eq_true rfl) rfl (C_p0_8 ..) ?_
    refine r_iload_n (pc := 54) C 2 dX8_judge_54 rfl rfl ?_
    exact r_iret (pc := 55) C hQ dX8_judge_55 rfl (jst_ri (by rw [hvj]; first | (rw [if_pos (by omega)]; done) | (rw [if_neg (by omega)]; done)) rfl)
  · refine r_iload_n (pc := 31) C 1 dX8_judge_31 rfl rfl ?_
    refine r_aload_n (pc := 32) C 0 dX8_judge_32 rfl rfl ?_
    refine r_get (pc := 33) C 0 0 0 dX8_judge_33 in_X8 rfl rfl (ci := 8) rfl (by decide) tw_143 rfl rfl ?_
    refine r_get (pc := 36) C 1 0 9 dX8_judge_36 in_X6 rfl rfl (ci := 6) rfl (by decide) tw_94 rfl rfl ?_
    refine r_icmp_ne (pc := 39) (tgt := 47) C dX8_judge_39 (by decide) (by first | omega | exact zand_rng _ _ | exact zor_rng _ _ | exact zxor_rng _ _ | exact BT.r (IT.b (by assumption)) _ _) (by first | omega | exact zand_rng _ _ | exact zor_rng _ _ | exact zxor_rng _ _ | exact BT.r (IT.b (by assumption)) _ _) (fun c39 => ?_) (fun c39 => ?_)
    · refine r_iload_n (pc := 47) C 1 dX8_judge_47 rfl rfl ?_
      refine r_istore_n (pc := 48) C 2 dX8_judge_48 rfl (Nat.le_of_ble_eq_true rfl) ?_
      refine r_aload_n (pc := 49) C 0 dX8_judge_49 rfl rfl ?_
      refine r_iconst (pc := 50) C dX8_judge_50 ?_
      refine r_put (pc := 51) C 0 0 8 dX8_judge_51 in_X8 tyX8_ok nmX8 rfl rfl (ci := 8) rfl (by decide) tw_151 rfl rfl (tyX8_ok 8 (by decide)) rfl rfl (Nat.le_of_ble_eq_true rfl) rfl (C_p0_8 ..) ?_
      refine r_iload_n (pc := 54) C 2 dX8_judge_54 rfl rfl ?_
      exact r_iret (pc := 55) C hQ dX8_judge_55 rfl (jst_ri (by rw [hvj]; first | (rw [if_pos (by omega)]; done) | (rw [if_neg (by omega)]; done)) rfl)
    · refine r_bipush (pc := 42) C dX8_judge_42 (by decide) ?_
      refine r_goto (pc := 44) (tgt := 48) C dX8_judge_44 (by decide) ?_
      refine r_istore_n (pc := 48) C 2 dX8_judge_48 rfl (Nat.le_of_ble_eq_true rfl) ?_
      refine r_aload_n (pc := 49) C 0 dX8_judge_49 rfl rfl ?_
      refine r_iconst (pc := 50) C dX8_judge_50 ?_
      refine r_put (pc := 51) C 0 0 8 dX8_judge_51 in_X8 tyX8_ok nmX8 rfl rfl (ci := 8) rfl (by decide) tw_151 rfl rfl (tyX8_ok 8 (by decide)) rfl rfl (Nat.le_of_ble_eq_true rfl) rfl (C_p0_8 ..) ?_
      refine r_iload_n (pc := 54) C 2 dX8_judge_54 rfl rfl ?_
      exact r_iret (pc := 55) C hQ dX8_judge_55 rfl (jst_ri (by rw [hvj]; first | (rw [if_pos (by omega)]; done) | (rw [if_neg (by omega)]; done)) rfl)

set_option maxRecDepth 100000 in
set_option maxHeartbeats 4000000 in
theorem c_X8_makesRowTrue (l : Launch) (G : GT) (a : Nat → Nat) (X N M P S : Tn) (d z : Int) (hI : IT N) (x8 : ∀ j, 0 ≤ X 1 j ∧ X 1 j ≤ 9) (hk9 : N 0 4 ≤ 999) (hd : 0 ≤ d ∧ d < N 0 1) (hz : 0 ≤ z ∧ z < N 0 0) : Cn l yX8_makesRowTrue cX8_makesRowTrue 3 (Option.some .boolean) ({ frames := 5, cells := 0, slots := 0, locals := 140 }) G [.ref (a 0), .int (iI d), .int (iI z)] (wC G a X N M P S) (aMk G a X N P S (zc (sHit N (X 1) (10 * d + z)))) := by
  refine Cn_in RX8 [some (.ref (a 0)), some (.int (iI d)), some (.int (iI z))] (by decide +kernel) rfl rfl rfl (Nat.le_of_ble_eq_true rfl) (fun K C hQ => ?_)
  have hBB := hI.b
  have hLL := hI.L
  have hDD := hI.D
  have hkk := hI.k
  have hdd := hI.d hd.1 hd.2
  have hk := sHit_k (T := N) (f := X 1) (d := d) (z := z) (by omega)
  refine r_aload_n (pc := 0) C 0 dX8_makesRowTrue_0 rfl rfl ?_
  refine r_get (pc := 1) C 0 0 0 dX8_makesRowTrue_1 in_X8 rfl rfl (ci := 8) rfl (by decide) tw_143 rfl rfl ?_
  refine r_iload_n (pc := 4) C 1 dX8_makesRowTrue_4 rfl rfl ?_
  refine r_callV (pc := 5) (is := [1]) C YX6_isLost dX8_makesRowTrue_5 tw_525 (c_X6_isLost l G _ _ _ (by first | assumption | omega | exact zand_rng _ _ | exact zor_rng _ _ | exact zxor_rng _ _ | exact BT.r (IT.b (by assumption)) _ _) (by first | assumption | omega | exact zand_rng _ _ | exact zor_rng _ _ | exact zxor_rng _ _ | exact BT.r (IT.b (by assumption)) _ _)) 1 0 rfl rfl (ci := 6) rfl rfl rfl (by decide) rfl rfl (Nat.le_of_ble_eq_true rfl) ⟨rfl, rfl, by decide, by decide⟩ (jst_i (C_u1 ..) ?_)
  refine r_ifb_ne (pc := 8) (tgt := 24) C dX8_makesRowTrue_8 (by decide) (fun c8 => ?_) (fun c8 => ?_)
  · refine r_iconst (pc := 24) C dX8_makesRowTrue_24 ?_
    exact r_zret (pc := 25) C hQ dX8_makesRowTrue_25 (by decide) rfl (by exact ⟨by rw [zc_f (fun q => by have q2 := hk.mp q; omega)], _, rfl⟩)
  · refine r_aload_n (pc := 11) C 0 dX8_makesRowTrue_11 rfl rfl ?_
    refine r_get (pc := 12) C 0 0 0 dX8_makesRowTrue_12 in_X8 rfl rfl (ci := 8) rfl (by decide) tw_143 rfl rfl ?_
    refine r_get (pc := 15) C 1 0 6 dX8_makesRowTrue_15 in_X6 rfl rfl (ci := 6) rfl (by decide) tw_88 rfl rfl ?_
    refine r_iload_n (pc := 18) C 1 dX8_makesRowTrue_18 rfl rfl ?_
    refine r_iaload (pc := 19) C 1 7 dX8_makesRowTrue_19 rfl rfl (by decide) (by omega) ?_
    refine r_iload_n (pc := 20) C 2 dX8_makesRowTrue_20 rfl rfl ?_
    refine r_icmp_ne (pc := 21) (tgt := 26) C dX8_makesRowTrue_21 (by decide) (by first | omega | exact zand_rng _ _ | exact zor_rng _ _ | exact zxor_rng _ _ | exact BT.r (IT.b (by assumption)) _ _) (by first | omega | exact zand_rng _ _ | exact zor_rng _ _ | exact zxor_rng _ _ | exact BT.r (IT.b (by assumption)) _ _) (fun c21 => ?_) (fun c21 => ?_)
    · refine r_aload_n (pc := 26) C 0 dX8_makesRowTrue_26 rfl rfl ?_
      refine r_get (pc := 27) C 0 0 1 dX8_makesRowTrue_27 in_X8 rfl rfl (ci := 8) rfl (by decide) tw_144 rfl rfl ?_
      refine r_aload_n (pc := 30) C 0 dX8_makesRowTrue_30 rfl rfl ?_
      refine r_get (pc := 31) C 0 0 0 dX8_makesRowTrue_31 in_X8 rfl rfl (ci := 8) rfl (by decide) tw_143 rfl rfl ?_
      refine r_callV (pc := 34) (is := [2, 1]) C YX6_become dX8_makesRowTrue_34 tw_343 (c_X6_become l G _ _ _ _) 2 0 rfl rfl (ci := 6) rfl rfl rfl (by decide) rfl rfl (Nat.le_of_ble_eq_true rfl) ⟨rfl, rfl, by decide, by decide⟩ (jst_v (C_u2_1 ..) ?_)
      refine r_aload_n (pc := 37) C 0 dX8_makesRowTrue_37 rfl rfl ?_
      refine r_get (pc := 38) C 0 0 1 dX8_makesRowTrue_38 in_X8 rfl rfl (ci := 8) rfl (by decide) tw_144 rfl rfl ?_
      refine r_get (pc := 41) C 2 0 6 dX8_makesRowTrue_41 in_X6 rfl rfl (ci := 6) rfl (by decide) tw_88 rfl rfl ?_
      refine r_iload_n (pc := 44) C 1 dX8_makesRowTrue_44 rfl rfl ?_
      refine r_iload_n (pc := 45) C 2 dX8_makesRowTrue_45 rfl rfl ?_
      refine r_iastore (pc := 46) C 2 7 dX8_makesRowTrue_46 rfl rfl (by decide) (by omega) rfl (C_a2_7 ..) ?_
      have hI1 : IT (up N 6 d z) := IT_at hI (by omega)
      obtain ⟨hI2, hI3, -⟩ := sDusk_p hI1 (by show N 0 4 < 1100; omega)
      refine r_aload_n (pc := 47) C 0 dX8_makesRowTrue_47 rfl rfl ?_
      refine r_get (pc := 48) C 0 0 1 dX8_makesRowTrue_48 in_X8 rfl rfl (ci := 8) rfl (by decide) tw_144 rfl rfl ?_
      refine r_callV (pc := 51) (is := [2]) C YX6_passDusk dX8_makesRowTrue_51 tw_543 (c_X6_passDusk l G _ _ (by first | assumption | omega | exact zand_rng _ _ | exact zor_rng _ _ | exact zxor_rng _ _ | exact BT.r (IT.b (by assumption)) _ _) (by show N 0 4 < 1100; omega)) 2 0 rfl rfl (ci := 6) rfl rfl rfl (by decide) rfl rfl (Nat.le_of_ble_eq_true rfl) ⟨rfl, rfl, by decide, by decide⟩ (jst_i (C_u2 ..) ?_)
      refine r_pop (pc := 54) C dX8_makesRowTrue_54 rfl ?_
      refine r_aload_n (pc := 55) C 0 dX8_makesRowTrue_55 rfl rfl ?_
      refine r_aload_n (pc := 56) C 0 dX8_makesRowTrue_56 rfl rfl ?_
      refine r_get (pc := 57) C 0 0 1 dX8_makesRowTrue_57 in_X8 rfl rfl (ci := 8) rfl (by decide) tw_144 rfl rfl ?_
      refine r_aload_n (pc := 60) C 0 dX8_makesRowTrue_60 rfl rfl ?_
      refine r_get (pc := 61) C 0 0 0 dX8_makesRowTrue_61 in_X8 rfl rfl (ci := 8) rfl (by decide) tw_143 rfl rfl ?_
      refine r_get (pc := 64) C 1 0 9 dX8_makesRowTrue_64 in_X6 rfl rfl (ci := 6) rfl (by decide) tw_94 rfl rfl ?_
      refine r_callV (pc := 67) (is := [0, 1, 2, 3, 4]) C YX8_sameAsRow dX8_makesRowTrue_67 tw_691 (c_X8_sameAsRow2 l G _ _ _ _ _ _ _ (by first | assumption | omega | exact zand_rng _ _ | exact zor_rng _ _ | exact zxor_rng _ _ | exact BT.r (IT.b (by assumption)) _ _) (by first | assumption | omega | exact zand_rng _ _ | exact zor_rng _ _ | exact zxor_rng _ _ | exact BT.r (IT.b (by assumption)) _ _) (by first | assumption | omega | exact zand_rng _ _ | exact zor_rng _ _ | exact zxor_rng _ _ | exact BT.r (IT.b (by assumption)) _ _)) 0 0 rfl rfl (ci := 8) rfl rfl rfl (by decide) rfl rfl (Nat.le_of_ble_eq_true rfl) ⟨rfl, rfl, by decide, by decide⟩ (jst_i (C_uall ..) ?_)
      have hst := sSm_told (X 1) (sDusk (up N 6 d z)) hDD.1
      have hsr := sSm_rr (X 1) (sDusk (up N 6 d z)) hDD.1 hDD.2
      refine r_aload_n (pc := 70) C 0 dX8_makesRowTrue_70 rfl rfl ?_
      refine r_get (pc := 71) C 0 0 0 dX8_makesRowTrue_71 in_X8 rfl rfl (ci := 8) rfl (by decide) tw_143 rfl rfl ?_
      refine r_get (pc := 74) C 1 0 9 dX8_makesRowTrue_74 in_X6 rfl rfl (ci := 6) rfl (by decide) tw_94 rfl rfl ?_
      refine r_icmp_ne (pc := 77) (tgt := 84) C dX8_makesRowTrue_77 (by decide) (by first | omega | exact zand_rng _ _ | exact zor_rng _ _ | exact zxor_rng _ _ | exact BT.r (IT.b (by assumption)) _ _) (by first | omega | exact zand_rng _ _ | exact zor_rng _ _ | exact zxor_rng _ _ | exact BT.r (IT.b (by assumption)) _ _) (fun c77 => ?_) (fun c77 => ?_)
      · refine r_iconst (pc := 84) C dX8_makesRowTrue_84 ?_
        exact r_zret (pc := 85) C hQ dX8_makesRowTrue_85 (by decide) rfl (by exact ⟨by rw [zc_f (fun q => c77 (hst.mpr (hk.mp q).2.2.2))], _, rfl⟩)
      · refine r_iconst (pc := 80) C dX8_makesRowTrue_80 ?_
        refine r_goto (pc := 81) (tgt := 85) C dX8_makesRowTrue_81 (by decide) ?_
        exact r_zret (pc := 85) C hQ dX8_makesRowTrue_85 (by decide) rfl (by exact ⟨by rw [zc_t (hk.mpr ⟨by omega, by omega, by omega, hst.mp c77⟩)], _, rfl⟩)
    · refine r_iconst (pc := 24) C dX8_makesRowTrue_24 ?_
      exact r_zret (pc := 25) C hQ dX8_makesRowTrue_25 (by decide) rfl (by exact ⟨by rw [zc_f (fun q => by have q2 := hk.mp q; omega)], _, rfl⟩)

set_option maxRecDepth 100000 in
set_option maxHeartbeats 4000000 in
theorem c_X8_paid (l : Launch) (G : GT) (a : Nat → Nat) (X N M P S : Tn) (w : Int) (hI : IT N) (hX : IX X S) (hk9 : N 0 4 ≤ 999) (gw : -2147483648 ≤ w ∧ w < 2147483648) : Cn l yX8_paid cX8_paid 6 (Option.some .int) ({ frames := 6, cells := 0, slots := 0, locals := 162 }) G [.ref (a 0), .int (iI w)] (wC G a X N M P S) (aE G a (q_paid N w (X 0 0)) (v_paid N (X 1) w) (X) (xrf X (q_paid N w (X 0 0))) (N) N P S) := by
  refine Cn_in RX8 [some (.ref (a 0)), some (.int (iI w)), none, none, none, none] (by decide +kernel) rfl rfl rfl (Nat.le_of_ble_eq_true rfl) (fun K C hQ => ?_)
  obtain ⟨x1, s1, x3, s6, x8⟩ := hX
  have hBB := hI.b
  have hLL := hI.L
  have hDD := hI.D
  have hkk := hI.k
  refine r_iload_n (pc := 0) C 1 dX8_paid_0 rfl rfl ?_
  refine r_if_eq (pc := 1) (tgt := 16) C dX8_paid_1 (by decide) (by first | omega | exact zand_rng _ _ | exact zor_rng _ _ | exact zxor_rng _ _ | exact BT.r (IT.b (by assumption)) _ _) (fun c1 => ?_) (fun c1 => ?_)
  · refine r_aload_n (pc := 16) C 0 dX8_paid_16 rfl rfl ?_
    refine r_get (pc := 17) C 0 0 8 dX8_paid_17 in_X8 rfl rfl (ci := 8) rfl (by decide) tw_151 rfl rfl ?_
    refine r_aload_n (pc := 20) C 0 dX8_paid_20 rfl rfl ?_
    refine r_get (pc := 21) C 0 0 0 dX8_paid_21 in_X8 rfl rfl (ci := 8) rfl (by decide) tw_143 rfl rfl ?_
    refine r_get (pc := 24) C 1 0 9 dX8_paid_24 in_X6 rfl rfl (ci := 6) rfl (by decide) tw_94 rfl rfl ?_
    refine r_icmp_eq (pc := 27) (tgt := 37) C dX8_paid_27 (by decide) (by first | omega | exact zand_rng _ _ | exact zor_rng _ _ | exact zxor_rng _ _ | exact BT.r (IT.b (by assumption)) _ _) (by first | omega | exact zand_rng _ _ | exact zor_rng _ _ | exact zxor_rng _ _ | exact BT.r (IT.b (by assumption)) _ _) (fun c27 => ?_) (fun c27 => ?_)
    · refine r_iconst (pc := 37) C dX8_paid_37 ?_
      refine r_istore_n (pc := 38) C 2 dX8_paid_38 rfl (Nat.le_of_ble_eq_true rfl) ?_
      refine r_bipush (pc := 39) C dX8_paid_39 (by decide) ?_
      refine r_istore_n (pc := 41) C 3 dX8_paid_41 rfl (Nat.le_of_ble_eq_true rfl) ?_
      refine r_iconst (pc := 42) C dX8_paid_42 ?_
      refine r_istore (pc := 43) C dX8_paid_43 (Nat.le_of_ble_eq_true rfl) ?_
      have L45 : ∀ (n : Nat) (d : Int) (M9 : Tn), 0 ≤ d → d ≤ N 0 1 → N 0 1 < d + n → Wc K G 45 [some (.ref (a 0)), some (.int (iI w)), some (.int (iI (sPN N (X 1) (10 * d)))), some (.int (iI (sPF N (X 1) (10 * d)))), some (.int (iI d)), none] [] (wC G a X N M9 P S) := by
        intro n
        induction n with
        | zero =>
          intro d M9 h0 h1 hn; omega
        | succ n ih =>
          intro d M9 h0 h1 hn
          have ih45 := ih
          refine r_iload (pc := 45) C dX8_paid_45 rfl ?_
          refine r_aload_n (pc := 47) C 0 dX8_paid_47 rfl rfl ?_
          refine r_get (pc := 48) C 0 0 0 dX8_paid_48 in_X8 rfl rfl (ci := 8) rfl (by decide) tw_143 rfl rfl ?_
          refine r_get (pc := 51) C 1 0 9 dX8_paid_51 in_X6 rfl rfl (ci := 6) rfl (by decide) tw_94 rfl rfl ?_
          refine r_icmp_ge (pc := 54) (tgt := 115) C dX8_paid_54 (by decide) (by first | omega | exact zand_rng _ _ | exact zor_rng _ _ | exact zxor_rng _ _ | exact BT.r (IT.b (by assumption)) _ _) (by first | omega | exact zand_rng _ _ | exact zor_rng _ _ | exact zxor_rng _ _ | exact BT.r (IT.b (by assumption)) _ _) (fun c54 => ?_) (fun c54 => ?_)
          · obtain rfl : d = N 0 1 := by omega
            refine r_iload_n (pc := 115) C 1 dX8_paid_115 rfl rfl ?_
            refine r_if_ne (pc := 116) (tgt := 123) C dX8_paid_116 (by decide) (by first | omega | exact zand_rng _ _ | exact zor_rng _ _ | exact zxor_rng _ _ | exact BT.r (IT.b (by assumption)) _ _) (fun c116 => ?_) (fun c116 => ?_)
            · refine r_iload_n (pc := 123) C 3 dX8_paid_123 rfl rfl ?_
              exact r_iret (pc := 124) C hQ dX8_paid_124 rfl (fin_okM (by unfold q_paid; (repeat (first | rw [if_pos (by omega)] | rw [if_neg (by omega)])); (try first | rfl | assumption | omega)) (by first | (exfalso; omega) | (unfold v_paid; (repeat (first | rw [if_pos (by omega)] | rw [if_neg (by omega)])))) (by rfl))
            · refine r_iload_n (pc := 119) C 2 dX8_paid_119 rfl rfl ?_
              refine r_goto (pc := 120) (tgt := 124) C dX8_paid_120 (by decide) ?_
              exact r_iret (pc := 124) C hQ dX8_paid_124 rfl (fin_okM (by unfold q_paid; (repeat (first | rw [if_pos (by omega)] | rw [if_neg (by omega)])); (try first | rfl | assumption | omega)) (by first | (exfalso; omega) | (unfold v_paid; (repeat (first | rw [if_pos (by omega)] | rw [if_neg (by omega)])))) (by rfl))
          · refine r_iconst (pc := 57) C dX8_paid_57 ?_
            refine r_istore (pc := 58) C dX8_paid_58 (Nat.le_of_ble_eq_true rfl) ?_
            have L60 : ∀ (n : Nat) (z : Int) (M9 : Tn), 0 ≤ z → z ≤ N 0 0 → N 0 0 < z + n → Wc K G 60 [some (.ref (a 0)), some (.int (iI w)), some (.int (iI (sPN N (X 1) (10 * d + z)))), some (.int (iI (sPF N (X 1) (10 * d + z)))), some (.int (iI d)), some (.int (iI z))] [] (wC G a X N M9 P S) := by
              intro n
              induction n with
              | zero =>
                intro z M9 h80 h81 h82; omega
              | succ n ih =>
                intro z M9 h80 h81 h82
                have hpo := sP_or N (X 1) (k := 10 * d + z) (by omega)
                refine r_iload (pc := 60) C dX8_paid_60 rfl ?_
                refine r_aload_n (pc := 62) C 0 dX8_paid_62 rfl rfl ?_
                refine r_get (pc := 63) C 0 0 0 dX8_paid_63 in_X8 rfl rfl (ci := 8) rfl (by decide) tw_143 rfl rfl ?_
                refine r_get (pc := 66) C 1 0 8 dX8_paid_66 in_X6 rfl rfl (ci := 6) rfl (by decide) tw_92 rfl rfl ?_
                refine r_icmp_ge (pc := 69) (tgt := 109) C dX8_paid_69 (by decide) (by first | omega | exact zand_rng _ _ | exact zor_rng _ _ | exact zxor_rng _ _ | exact BT.r (IT.b (by assumption)) _ _) (by first | omega | exact zand_rng _ _ | exact zor_rng _ _ | exact zxor_rng _ _ | exact BT.r (IT.b (by assumption)) _ _) (fun c69 => ?_) (fun c69 => ?_)
                · refine r_iinc (pc := 109) C dX8_paid_109 rfl ?_
                  refine r_goto (pc := 112) (tgt := 45) C dX8_paid_112 (by decide) ?_
                  have hgp := sP_gap (T := N) (f := X 1) h0 hLL
                  refine Wc.to (ih45 (d + 1) _ (by omega) (by omega) (by omega)) rfl (lsub_s rfl (lsub_s rfl (lsub_s (by rw [hgp.1, show N 0 0 = z by omega]) (lsub_s (by rw [hgp.2, show N 0 0 = z by omega]) (lsub_s rfl (lsub_n lsub_0)))))) rfl
                · refine r_aload_n (pc := 72) C 0 dX8_paid_72 rfl rfl ?_
                  refine r_iload (pc := 73) C dX8_paid_73 rfl ?_
                  refine r_iload (pc := 75) C dX8_paid_75 rfl ?_
                  refine r_callV (pc := 77) (is := [0, 1, 2, 3, 4]) C YX8_makesRowTrue dX8_paid_77 tw_687 (c_X8_makesRowTrue l G _ _ _ _ _ _ _ _ (by first | assumption | omega | exact zand_rng _ _ | exact zor_rng _ _ | exact zxor_rng _ _ | exact BT.r (IT.b (by assumption)) _ _) (by first | assumption | omega | exact zand_rng _ _ | exact zor_rng _ _ | exact zxor_rng _ _ | exact BT.r (IT.b (by assumption)) _ _) (by first | assumption | omega | exact zand_rng _ _ | exact zor_rng _ _ | exact zxor_rng _ _ | exact BT.r (IT.b (by assumption)) _ _) (by first | assumption | omega | exact zand_rng _ _ | exact zor_rng _ _ | exact zxor_rng _ _ | exact BT.r (IT.b (by assumption)) _ _) (by first | assumption | omega | exact zand_rng _ _ | exact zor_rng _ _ | exact zxor_rng _ _ | exact BT.r (IT.b (by assumption)) _ _)) 0 0 rfl rfl (ci := 8) rfl rfl rfl (by decide) rfl rfl (Nat.le_of_ble_eq_true rfl) ⟨rfl, rfl, by decide, by decide⟩ ?_
                  refine fun o g hp _ => ?_
                  obtain ⟨rfl, M1, rfl⟩ := hp
                  show Wc K G _ _ (.int (iI (zc (sHit N (X 1) (10 * d + z)))) :: _) (wC G a X N M1 P S)
                  have hz := zc_r (sHit N (X 1) (10 * d + z))
                  refine r_if_eq (pc := 80) (tgt := 103) C dX8_paid_80 (by decide) (by first | omega | exact zand_rng _ _ | exact zor_rng _ _ | exact zxor_rng _ _ | exact BT.r (IT.b (by assumption)) _ _) (fun c80 => ?_) (fun c80 => ?_)
                  · have hh := zc_z (p := sHit N (X 1) (10 * d + z)) (by omega)
                    have hs1 : sPN N (X 1) (10 * d + (z + 1)) = sPN N (X 1) (10 * d + z) := by rw [show 10 * d + (z + 1) = (10 * d + z) + 1 by omega, sPN_s N (X 1) (by omega), zc_f hh, Int.add_zero]
                    have hs2 : sPF N (X 1) (10 * d + (z + 1)) = sPF N (X 1) (10 * d + z) := by rw [show 10 * d + (z + 1) = (10 * d + z) + 1 by omega, sPF_n (by omega) hh]
                    refine r_iinc (pc := 103) C dX8_paid_103 rfl ?_
                    refine r_goto (pc := 106) (tgt := 60) C dX8_paid_106 (by decide) ?_
                    refine Wc.to (ih (z + 1) _ (by omega) (by omega) (by omega)) rfl (lsub_s rfl (lsub_s rfl (lsub_s (by rw [hs1]) (lsub_s (by rw [hs2]) (lsub_s rfl (lsub_s rfl lsub_0)))))) rfl
                  · have hh := zc_n (p := sHit N (X 1) (10 * d + z)) (by omega)
                    have hs1 : sPN N (X 1) (10 * d + (z + 1)) = sPN N (X 1) (10 * d + z) + 1 := by rw [show 10 * d + (z + 1) = (10 * d + z) + 1 by omega, sPN_s N (X 1) (by omega), zc_t hh]
                    have hs3 : sPF N (X 1) (10 * d + (z + 1)) = if sPF N (X 1) (10 * d + z) < 0 then 10 * d + z else sPF N (X 1) (10 * d + z) := by rw [show 10 * d + (z + 1) = (10 * d + z) + 1 by omega, sPF_y (by omega) hh]
                    refine r_iload_n (pc := 83) C 2 dX8_paid_83 rfl rfl ?_
                    refine r_if_ne (pc := 84) (tgt := 98) C dX8_paid_84 (by decide) (by first | omega | exact zand_rng _ _ | exact zor_rng _ _ | exact zxor_rng _ _ | exact BT.r (IT.b (by assumption)) _ _) (fun c84 => ?_) (fun c84 => ?_)
                    · have hs2 : sPF N (X 1) (10 * d + (z + 1)) = sPF N (X 1) (10 * d + z) := by rw [hs3, if_neg (by omega)]
                      refine r_iload_n (pc := 98) C 3 dX8_paid_98 rfl rfl ?_
                      refine r_istore_n (pc := 99) C 3 dX8_paid_99 rfl (Nat.le_of_ble_eq_true rfl) ?_
                      refine r_iinc (pc := 100) C dX8_paid_100 rfl ?_
                      
                      refine r_iinc (pc := 103) C dX8_paid_103 rfl ?_
                      refine r_goto (pc := 106) (tgt := 60) C dX8_paid_106 (by decide) ?_
                      refine Wc.to (ih (z + 1) _ (by omega) (by omega) (by omega)) rfl (lsub_s rfl (lsub_s rfl (lsub_s (by rw [hs1]) (lsub_s (by rw [hs2]) (lsub_s rfl (lsub_s rfl lsub_0)))))) rfl
                    · have hs2 : sPF N (X 1) (10 * d + (z + 1)) = 10 * d + z := by rw [hs3, if_pos (by omega)]
                      refine r_bipush (pc := 87) C dX8_paid_87 (by decide) ?_
                      refine r_iload (pc := 89) C dX8_paid_89 rfl ?_
                      refine r_imul (pc := 91) C dX8_paid_91 ?_
                      refine r_iload (pc := 92) C dX8_paid_92 rfl ?_
                      refine r_iadd (pc := 94) C dX8_paid_94 ?_
                      refine r_goto (pc := 95) (tgt := 99) C dX8_paid_95 (by decide) ?_
                      refine r_istore_n (pc := 99) C 3 dX8_paid_99 rfl (Nat.le_of_ble_eq_true rfl) ?_
                      refine r_iinc (pc := 100) C dX8_paid_100 rfl ?_
                      
                      refine r_iinc (pc := 103) C dX8_paid_103 rfl ?_
                      refine r_goto (pc := 106) (tgt := 60) C dX8_paid_106 (by decide) ?_
                      refine Wc.to (ih (z + 1) _ (by omega) (by omega) (by omega)) rfl (lsub_s rfl (lsub_s rfl (lsub_s (by rw [hs1]) (lsub_s (by rw [hs2]) (lsub_s rfl (lsub_s rfl lsub_0)))))) rfl
            refine Wc.to (L60 7 0 M9 (by omega) (by omega) (by omega)) rfl (lsub_s rfl (lsub_s rfl (lsub_s (by rw [Int.add_zero]) (lsub_s (by rw [Int.add_zero]) (lsub_s rfl (lsub_s rfl lsub_0)))))) rfl
      refine Wc.to (L45 ((N 0 1).toNat + 1) 0 M (by omega) (by omega) (by omega)) rfl (lsub_s rfl (lsub_s rfl (lsub_s rfl (lsub_s rfl (lsub_s rfl (lsub_n lsub_0)))))) rfl
    · refine r_aload_n (pc := 30) C 0 dX8_paid_30 rfl rfl ?_
      refine r_bipush (pc := 31) C dX8_paid_31 (by decide) ?_
      refine r_callV (pc := 33) (is := [0, 1, 2, 3, 4]) C YX8_refuse dX8_paid_33 tw_185 (c_X8_refuse l G _ _ _ _ _ _ _ (by first | assumption | omega | exact zand_rng _ _ | exact zor_rng _ _ | exact zxor_rng _ _ | exact BT.r (IT.b (by assumption)) _ _)) 0 0 rfl rfl (ci := 8) rfl rfl rfl (by decide) rfl rfl (Nat.le_of_ble_eq_true rfl) ⟨rfl, rfl, by decide, by decide⟩ (jst_i (C_uall ..) ?_)
      exact r_iret (pc := 36) C hQ dX8_paid_36 rfl (fin_noM (by unfold q_paid; (repeat (first | rw [if_pos (by omega)] | rw [if_neg (by omega)])); (try first | rfl | assumption | omega)) (by omega) rfl)
  · refine r_iload_n (pc := 4) C 1 dX8_paid_4 rfl rfl ?_
    refine r_iconst (pc := 5) C dX8_paid_5 ?_
    refine r_icmp_eq (pc := 6) (tgt := 16) C dX8_paid_6 (by decide) (by first | omega | exact zand_rng _ _ | exact zor_rng _ _ | exact zxor_rng _ _ | exact BT.r (IT.b (by assumption)) _ _) (by first | omega | exact zand_rng _ _ | exact zor_rng _ _ | exact zxor_rng _ _ | exact BT.r (IT.b (by assumption)) _ _) (fun c6 => ?_) (fun c6 => ?_)
    · refine r_aload_n (pc := 16) C 0 dX8_paid_16 rfl rfl ?_
      refine r_get (pc := 17) C 0 0 8 dX8_paid_17 in_X8 rfl rfl (ci := 8) rfl (by decide) tw_151 rfl rfl ?_
      refine r_aload_n (pc := 20) C 0 dX8_paid_20 rfl rfl ?_
      refine r_get (pc := 21) C 0 0 0 dX8_paid_21 in_X8 rfl rfl (ci := 8) rfl (by decide) tw_143 rfl rfl ?_
      refine r_get (pc := 24) C 1 0 9 dX8_paid_24 in_X6 rfl rfl (ci := 6) rfl (by decide) tw_94 rfl rfl ?_
      refine r_icmp_eq (pc := 27) (tgt := 37) C dX8_paid_27 (by decide) (by first | omega | exact zand_rng _ _ | exact zor_rng _ _ | exact zxor_rng _ _ | exact BT.r (IT.b (by assumption)) _ _) (by first | omega | exact zand_rng _ _ | exact zor_rng _ _ | exact zxor_rng _ _ | exact BT.r (IT.b (by assumption)) _ _) (fun c27 => ?_) (fun c27 => ?_)
      · refine r_iconst (pc := 37) C dX8_paid_37 ?_
        refine r_istore_n (pc := 38) C 2 dX8_paid_38 rfl (Nat.le_of_ble_eq_true rfl) ?_
        refine r_bipush (pc := 39) C dX8_paid_39 (by decide) ?_
        refine r_istore_n (pc := 41) C 3 dX8_paid_41 rfl (Nat.le_of_ble_eq_true rfl) ?_
        refine r_iconst (pc := 42) C dX8_paid_42 ?_
        refine r_istore (pc := 43) C dX8_paid_43 (Nat.le_of_ble_eq_true rfl) ?_
        have L45 : ∀ (n : Nat) (d : Int) (M9 : Tn), 0 ≤ d → d ≤ N 0 1 → N 0 1 < d + n → Wc K G 45 [some (.ref (a 0)), some (.int (iI w)), some (.int (iI (sPN N (X 1) (10 * d)))), some (.int (iI (sPF N (X 1) (10 * d)))), some (.int (iI d)), none] [] (wC G a X N M9 P S) := by
          intro n
          induction n with
          | zero =>
            intro d M9 h0 h1 hn; omega
          | succ n ih =>
            intro d M9 h0 h1 hn
            have ih45 := ih
            refine r_iload (pc := 45) C dX8_paid_45 rfl ?_
            refine r_aload_n (pc := 47) C 0 dX8_paid_47 rfl rfl ?_
            refine r_get (pc := 48) C 0 0 0 dX8_paid_48 in_X8 rfl rfl (ci := 8) rfl (by decide) tw_143 rfl rfl ?_
            refine r_get (pc := 51) C 1 0 9 dX8_paid_51 in_X6 rfl rfl (ci := 6) rfl (by decide) tw_94 rfl rfl ?_
            refine r_icmp_ge (pc := 54) (tgt := 115) C dX8_paid_54 (by decide) (by first | omega | exact zand_rng _ _ | exact zor_rng _ _ | exact zxor_rng _ _ | exact BT.r (IT.b (by assumption)) _ _) (by first | omega | exact zand_rng _ _ | exact zor_rng _ _ | exact zxor_rng _ _ | exact BT.r (IT.b (by assumption)) _ _) (fun c54 => ?_) (fun c54 => ?_)
            · obtain rfl : d = N 0 1 := by omega
              refine r_iload_n (pc := 115) C 1 dX8_paid_115 rfl rfl ?_
              refine r_if_ne (pc := 116) (tgt := 123) C dX8_paid_116 (by decide) (by first | omega | exact zand_rng _ _ | exact zor_rng _ _ | exact zxor_rng _ _ | exact BT.r (IT.b (by assumption)) _ _) (fun c116 => ?_) (fun c116 => ?_)
              · refine r_iload_n (pc := 123) C 3 dX8_paid_123 rfl rfl ?_
                exact r_iret (pc := 124) C hQ dX8_paid_124 rfl (fin_okM (by unfold q_paid; (repeat (first | rw [if_pos (by omega)] | rw [if_neg (by omega)])); (try first | rfl | assumption | omega)) (by first | (exfalso; omega) | (unfold v_paid; (repeat (first | rw [if_pos (by omega)] | rw [if_neg (by omega)])))) (by rfl))
              · refine r_iload_n (pc := 119) C 2 dX8_paid_119 rfl rfl ?_
                refine r_goto (pc := 120) (tgt := 124) C dX8_paid_120 (by decide) ?_
                exact r_iret (pc := 124) C hQ dX8_paid_124 rfl (fin_okM (by unfold q_paid; (repeat (first | rw [if_pos (by omega)] | rw [if_neg (by omega)])); (try first | rfl | assumption | omega)) (by first | (exfalso; omega) | (unfold v_paid; (repeat (first | rw [if_pos (by omega)] | rw [if_neg (by omega)])))) (by rfl))
            · refine r_iconst (pc := 57) C dX8_paid_57 ?_
              refine r_istore (pc := 58) C dX8_paid_58 (Nat.le_of_ble_eq_true rfl) ?_
              have L60 : ∀ (n : Nat) (z : Int) (M9 : Tn), 0 ≤ z → z ≤ N 0 0 → N 0 0 < z + n → Wc K G 60 [some (.ref (a 0)), some (.int (iI w)), some (.int (iI (sPN N (X 1) (10 * d + z)))), some (.int (iI (sPF N (X 1) (10 * d + z)))), some (.int (iI d)), some (.int (iI z))] [] (wC G a X N M9 P S) := by
                intro n
                induction n with
                | zero =>
                  intro z M9 h80 h81 h82; omega
                | succ n ih =>
                  intro z M9 h80 h81 h82
                  have hpo := sP_or N (X 1) (k := 10 * d + z) (by omega)
                  refine r_iload (pc := 60) C dX8_paid_60 rfl ?_
                  refine r_aload_n (pc := 62) C 0 dX8_paid_62 rfl rfl ?_
                  refine r_get (pc := 63) C 0 0 0 dX8_paid_63 in_X8 rfl rfl (ci := 8) rfl (by decide) tw_143 rfl rfl ?_
                  refine r_get (pc := 66) C 1 0 8 dX8_paid_66 in_X6 rfl rfl (ci := 6) rfl (by decide) tw_92 rfl rfl ?_
                  refine r_icmp_ge (pc := 69) (tgt := 109) C dX8_paid_69 (by decide) (by first | omega | exact zand_rng _ _ | exact zor_rng _ _ | exact zxor_rng _ _ | exact BT.r (IT.b (by assumption)) _ _) (by first | omega | exact zand_rng _ _ | exact zor_rng _ _ | exact zxor_rng _ _ | exact BT.r (IT.b (by assumption)) _ _) (fun c69 => ?_) (fun c69 => ?_)
                  · refine r_iinc (pc := 109) C dX8_paid_109 rfl ?_
                    refine r_goto (pc := 112) (tgt := 45) C dX8_paid_112 (by decide) ?_
                    have hgp := sP_gap (T := N) (f := X 1) h0 hLL
                    refine Wc.to (ih45 (d + 1) _ (by omega) (by omega) (by omega)) rfl (lsub_s rfl (lsub_s rfl (lsub_s (by rw [hgp.1, show N 0 0 = z by omega]) (lsub_s (by rw [hgp.2, show N 0 0 = z by omega]) (lsub_s rfl (lsub_n lsub_0)))))) rfl
                  · refine r_aload_n (pc := 72) C 0 dX8_paid_72 rfl rfl ?_
                    refine r_iload (pc := 73) C dX8_paid_73 rfl ?_
                    refine r_iload (pc := 75) C dX8_paid_75 rfl ?_
                    refine r_callV (pc := 77) (is := [0, 1, 2, 3, 4]) C YX8_makesRowTrue dX8_paid_77 tw_687 (c_X8_makesRowTrue l G _ _ _ _ _ _ _ _ (by first | assumption | omega | exact zand_rng _ _ | exact zor_rng _ _ | exact zxor_rng _ _ | exact BT.r (IT.b (by assumption)) _ _) (by first | assumption | omega | exact zand_rng _ _ | exact zor_rng _ _ | exact zxor_rng _ _ | exact BT.r (IT.b (by assumption)) _ _) (by first | assumption | omega | exact zand_rng _ _ | exact zor_rng _ _ | exact zxor_rng _ _ | exact BT.r (IT.b (by assumption)) _ _) (by first | assumption | omega | exact zand_rng _ _ | exact zor_rng _ _ | exact zxor_rng _ _ | exact BT.r (IT.b (by assumption)) _ _) (by first | assumption | omega | exact zand_rng _ _ | exact zor_rng _ _ | exact zxor_rng _ _ | exact BT.r (IT.b (by assumption)) _ _)) 0 0 rfl rfl (ci := 8) rfl rfl rfl (by decide) rfl rfl (Nat.le_of_ble_eq_true rfl) ⟨rfl, rfl, by decide, by decide⟩ ?_
                    refine fun o g hp _ => ?_
                    obtain ⟨rfl, M1, rfl⟩ := hp
                    show Wc K G _ _ (.int (iI (zc (sHit N (X 1) (10 * d + z)))) :: _) (wC G a X N M1 P S)
                    have hz := zc_r (sHit N (X 1) (10 * d + z))
                    refine r_if_eq (pc := 80) (tgt := 103) C dX8_paid_80 (by decide) (by first | omega | exact zand_rng _ _ | exact zor_rng _ _ | exact zxor_rng _ _ | exact BT.r (IT.b (by assumption)) _ _) (fun c80 => ?_) (fun c80 => ?_)
                    · have hh := zc_z (p := sHit N (X 1) (10 * d + z)) (by omega)
                      have hs1 : sPN N (X 1) (10 * d + (z + 1)) = sPN N (X 1) (10 * d + z) := by rw [show 10 * d + (z + 1) = (10 * d + z) + 1 by omega, sPN_s N (X 1) (by omega), zc_f hh, Int.add_zero]
                      have hs2 : sPF N (X 1) (10 * d + (z + 1)) = sPF N (X 1) (10 * d + z) := by rw [show 10 * d + (z + 1) = (10 * d + z) + 1 by omega, sPF_n (by omega) hh]
                      refine r_iinc (pc := 103) C dX8_paid_103 rfl ?_
                      refine r_goto (pc := 106) (tgt := 60) C dX8_paid_106 (by decide) ?_
                      refine Wc.to (ih (z + 1) _ (by omega) (by omega) (by omega)) rfl (lsub_s rfl (lsub_s rfl (lsub_s (by rw [hs1]) (lsub_s (by rw [hs2]) (lsub_s rfl (lsub_s rfl lsub_0)))))) rfl
                    · have hh := zc_n (p := sHit N (X 1) (10 * d + z)) (by omega)
                      have hs1 : sPN N (X 1) (10 * d + (z + 1)) = sPN N (X 1) (10 * d + z) + 1 := by rw [show 10 * d + (z + 1) = (10 * d + z) + 1 by omega, sPN_s N (X 1) (by omega), zc_t hh]
                      have hs3 : sPF N (X 1) (10 * d + (z + 1)) = if sPF N (X 1) (10 * d + z) < 0 then 10 * d + z else sPF N (X 1) (10 * d + z) := by rw [show 10 * d + (z + 1) = (10 * d + z) + 1 by omega, sPF_y (by omega) hh]
                      refine r_iload_n (pc := 83) C 2 dX8_paid_83 rfl rfl ?_
                      refine r_if_ne (pc := 84) (tgt := 98) C dX8_paid_84 (by decide) (by first | omega | exact zand_rng _ _ | exact zor_rng _ _ | exact zxor_rng _ _ | exact BT.r (IT.b (by assumption)) _ _) (fun c84 => ?_) (fun c84 => ?_)
                      · have hs2 : sPF N (X 1) (10 * d + (z + 1)) = sPF N (X 1) (10 * d + z) := by rw [hs3, if_neg (by omega)]
                        refine r_iload_n (pc := 98) C 3 dX8_paid_98 rfl rfl ?_
                        refine r_istore_n (pc := 99) C 3 dX8_paid_99 rfl (Nat.le_of_ble_eq_true rfl) ?_
                        refine r_iinc (pc := 100) C dX8_paid_100 rfl ?_
                        
                        refine r_iinc (pc := 103) C dX8_paid_103 rfl ?_
                        refine r_goto (pc := 106) (tgt := 60) C dX8_paid_106 (by decide) ?_
                        refine Wc.to (ih (z + 1) _ (by omega) (by omega) (by omega)) rfl (lsub_s rfl (lsub_s rfl (lsub_s (by rw [hs1]) (lsub_s (by rw [hs2]) (lsub_s rfl (lsub_s rfl lsub_0)))))) rfl
                      · have hs2 : sPF N (X 1) (10 * d + (z + 1)) = 10 * d + z := by rw [hs3, if_pos (by omega)]
                        refine r_bipush (pc := 87) C dX8_paid_87 (by decide) ?_
                        refine r_iload (pc := 89) C dX8_paid_89 rfl ?_
                        refine r_imul (pc := 91) C dX8_paid_91 ?_
                        refine r_iload (pc := 92) C dX8_paid_92 rfl ?_
                        refine r_iadd (pc := 94) C dX8_paid_94 ?_
                        refine r_goto (pc := 95) (tgt := 99) C dX8_paid_95 (by decide) ?_
                        refine r_istore_n (pc := 99) C 3 dX8_paid_99 rfl (Nat.le_of_ble_eq_true rfl) ?_
                        refine r_iinc (pc := 100) C dX8_paid_100 rfl ?_
                        
                        refine r_iinc (pc := 103) C dX8_paid_103 rfl ?_
                        refine r_goto (pc := 106) (tgt := 60) C dX8_paid_106 (by decide) ?_
                        refine Wc.to (ih (z + 1) _ (by omega) (by omega) (by omega)) rfl (lsub_s rfl (lsub_s rfl (lsub_s (by rw [hs1]) (lsub_s (by rw [hs2]) (lsub_s rfl (lsub_s rfl lsub_0)))))) rfl
              refine Wc.to (L60 7 0 M9 (by omega) (by omega) (by omega)) rfl (lsub_s rfl (lsub_s rfl (lsub_s (by rw [Int.add_zero]) (lsub_s (by rw [Int.add_zero]) (lsub_s rfl (lsub_s rfl lsub_0)))))) rfl
        refine Wc.to (L45 ((N 0 1).toNat + 1) 0 M (by omega) (by omega) (by omega)) rfl (lsub_s rfl (lsub_s rfl (lsub_s rfl (lsub_s rfl (lsub_s rfl (lsub_n lsub_0)))))) rfl
      · refine r_aload_n (pc := 30) C 0 dX8_paid_30 rfl rfl ?_
        refine r_bipush (pc := 31) C dX8_paid_31 (by decide) ?_
        refine r_callV (pc := 33) (is := [0, 1, 2, 3, 4]) C YX8_refuse dX8_paid_33 tw_185 (c_X8_refuse l G _ _ _ _ _ _ _ (by first | assumption | omega | exact zand_rng _ _ | exact zor_rng _ _ | exact zxor_rng _ _ | exact BT.r (IT.b (by assumption)) _ _)) 0 0 rfl rfl (ci := 8) rfl rfl rfl (by decide) rfl rfl (Nat.le_of_ble_eq_true rfl) ⟨rfl, rfl, by decide, by decide⟩ (jst_i (C_uall ..) ?_)
        exact r_iret (pc := 36) C hQ dX8_paid_36 rfl (fin_noM (by unfold q_paid; (repeat (first | rw [if_pos (by omega)] | rw [if_neg (by omega)])); (try first | rfl | assumption | omega)) (by omega) rfl)
    · refine r_aload_n (pc := 9) C 0 dX8_paid_9 rfl rfl ?_
      refine r_bipush (pc := 10) C dX8_paid_10 (by decide) ?_
      refine r_callV (pc := 12) (is := [0, 1, 2, 3, 4]) C YX8_refuse dX8_paid_12 tw_185 (c_X8_refuse l G _ _ _ _ _ _ _ (by first | assumption | omega | exact zand_rng _ _ | exact zor_rng _ _ | exact zxor_rng _ _ | exact BT.r (IT.b (by assumption)) _ _)) 0 0 rfl rfl (ci := 8) rfl rfl rfl (by decide) rfl rfl (Nat.le_of_ble_eq_true rfl) ⟨rfl, rfl, by decide, by decide⟩ (jst_i (C_uall ..) ?_)
      exact r_iret (pc := 15) C hQ dX8_paid_15 rfl (fin_noM (by unfold q_paid; (repeat (first | rw [if_pos (by omega)] | rw [if_neg (by omega)])); (try first | rfl | assumption | omega)) (by omega) rfl)

