theorem sSum_mono {f g : Int → Int} {k : Int} (h : ∀ j, 0 ≤ j → j < k → f j ≤ g j) : ∀ n : Nat, (n : Int) ≤ k → sSum f n ≤ sSum g n := by
  intro n
  induction n with
  | zero => intro _; exact Int.le_refl _
  | succ n ih =>
    intro hb
    have h1 := ih (by omega)
    have h2 := h n (by omega) (by omega)
    rw [show ((n + 1 : Nat) : Int) = (n : Int) + 1 by omega, sSum_s f (by omega), sSum_s g (by omega)]
    omega
theorem bits_k : ∀ s : Nat, s < 256 → (s : Int) = sSum (fun d => if zbit (s : Int) d = 1 then zp2 d else 0) 8 := by decide +kernel
theorem bits_le {s m : Int} (hs : 0 ≤ s ∧ s < 256) (hm : 0 ≤ m ∧ m < 256) (h : ∀ d, 0 ≤ d → d < 8 → zbit s d = 1 → zbit m d = 1) : s ≤ m := by
  have h1 := bits_k s.toNat (by omega)
  have h2 := bits_k m.toNat (by omega)
  rw [show (s.toNat : Int) = s by omega] at h1
  rw [show (m.toNat : Int) = m by omega] at h2
  have h3 := sSum_mono (f := fun d => if zbit s d = 1 then zp2 d else 0) (g := fun d => if zbit m d = 1 then zp2 d else 0) (k := 8) (fun j p q => by
    show (if zbit s j = 1 then zp2 j else 0) ≤ (if zbit m j = 1 then zp2 j else 0)
    by_cases e : zbit s j = 1
    · rw [if_pos e, if_pos (h j p q e)]
      exact Int.le_refl _
    · rw [if_neg e]
      have := zp2_pos j
      split <;> omega) 8 (Int.le_refl _)
  have h3 : sSum (fun d => if zbit s d = 1 then zp2 d else 0) 8 ≤ sSum (fun d => if zbit m d = 1 then zp2 d else 0) 8 := h3
  omega
/-- what isn't out of a mask -/
theorem zand_in {T : Tn} (hD : 0 ≤ T 0 1 ∧ T 0 1 ≤ 8) (p : Int → Prop) [DecidablePred p] {s : Int} (hs : -2147483648 ≤ s ∧ s < 2147483648) : zand s (zxor (sMask p (T 0 1)) (-1)) = 0 ↔ (0 ≤ s ∧ s < zp2 (T 0 1) ∧ ∀ d, 0 ≤ d → d < T 0 1 → zbit s d = 1 → p d) := by
  have hr := (sMask_r p hD.1 hD.2).1
  have hz := zp2_r (L := T 0 1) (by omega)
  rw [zxor_m1 (by omega), zand_not hs (by omega)]
  constructor
  · rintro ⟨h1, h2⟩
    exact ⟨h1.1, by omega, fun d a b c => (sMask_b p a b hD.2).mp (h2 d a (by omega) c)⟩
  · rintro ⟨h1, h2, h3⟩
    have hb : ∀ d, 0 ≤ d → d < 8 → zbit s d = 1 → zbit (sMask p (T 0 1)) d = 1 := fun d a b c => by
      by_cases e : d < T 0 1
      · exact (sMask_b p a e hD.2).mpr (h3 d a e c)
      · have := zbit_hi ⟨h1, h2⟩ hD.1 (d := d) (by omega) (by omega)
        omega
    exact ⟨⟨h1, bits_le ⟨h1, by omega⟩ (by omega) hb⟩, hb⟩
set_option maxRecDepth 100000 in
set_option maxHeartbeats 4000000 in
theorem c_X8_stays (l : Launch) (G : GT) (a : Nat → Nat) (X N M P S : Tn) (s q k : Int) (hI : IT N) (hX : IX X S) (hk9 : N 0 4 ≤ 999) (gs : -2147483648 ≤ s ∧ s < 2147483648) (gq : -2147483648 ≤ q ∧ q < 2147483648) (gk : -2147483648 ≤ k ∧ k < 2147483648) : Cn l yX8_stays cX8_stays 6 (Option.some .int) ({ frames := 7, cells := 0, slots := 0, locals := 165 }) G [.ref (a 0), .int (iI s), .int (iI q), .int (iI k)] (wC G a X N M P S) (aE G a (q_stays N s q k) (v_stay N s q k) (X) (xrf X (q_stays N s q k)) (N) N P S) := by
  refine Cn_in RX8 [some (.ref (a 0)), some (.int (iI s)), some (.int (iI q)), some (.int (iI k)), none, none] (by decide +kernel) rfl rfl rfl (Nat.le_of_ble_eq_true rfl) (fun K C hQ => ?_)
  obtain ⟨x1, s1, x3, s6, x8⟩ := hX
  have hBB := hI.b
  have hLL := hI.L
  have hDD := hI.D
  have hkk := hI.k
  have hzp := zp2_r (L := N 0 1) (by omega)
  have hmr := (sMask_r (fun d => N 6 d ≠ 9) hDD.1 hDD.2).1
  have hpi : zand s (zxor (sMask (fun d => N 6 d ≠ 9) (N 0 1)) (-1)) = 0 ↔ pAre N s := zand_in hDD (fun d => N 6 d ≠ 9) gs
  refine r_iload_n (pc := 0) C 1 dX8_stays_0 rfl rfl ?_
  refine r_aload_n (pc := 1) C 0 dX8_stays_1 rfl rfl ?_
  refine r_get (pc := 2) C 0 0 0 dX8_stays_2 in_X8 rfl rfl (ci := 8) rfl (by decide) tw_143 rfl rfl ?_
  refine r_callV (pc := 5) (is := [1]) C YX6_dovesNotLost dX8_stays_5 tw_614 (c_X6_dovesNotLost l G _ _ (by first | assumption | omega | exact zand_rng _ _ | exact zor_rng _ _ | exact zxor_rng _ _ | exact BT.r (IT.b (by assumption)) _ _)) 1 0 rfl rfl (ci := 6) rfl rfl rfl (by decide) rfl rfl (Nat.le_of_ble_eq_true rfl) ⟨rfl, rfl, by decide, by decide⟩ (jst_i (C_u1 ..) ?_)
  refine r_iconst (pc := 8) C dX8_stays_8 ?_
  refine r_ixor (pc := 9) C dX8_stays_9 ?_
  refine r_iand (pc := 10) C dX8_stays_10 ?_
  refine r_if_ne (pc := 11) (tgt := 29) C dX8_stays_11 (by decide) (by first | omega | exact zand_rng _ _ | exact zor_rng _ _ | exact zxor_rng _ _ | exact BT.r (IT.b (by assumption)) _ _) (fun c11 => ?_) (fun c11 => ?_)
  · (try have hz1 : zc (pAre N s) = 0 := zc_f (fun z => c11 (hpi.mpr z)))
    refine r_iconst (pc := 29) C dX8_stays_29 ?_
    refine r_istore (pc := 30) C dX8_stays_30 (Nat.le_of_ble_eq_true rfl) ?_
    refine r_iload (pc := 32) C dX8_stays_32 rfl ?_
    refine r_if_eq (pc := 34) (tgt := 47) C dX8_stays_34 (by decide) (by first | omega | exact zand_rng _ _ | exact zor_rng _ _ | exact zxor_rng _ _ | exact BT.r (IT.b (by assumption)) _ _) (fun c34 => ?_) (fun c34 => absurd c34 (by omega))
    refine r_iconst (pc := 47) C dX8_stays_47 ?_
    refine r_istore (pc := 48) C dX8_stays_48 (Nat.le_of_ble_eq_true rfl) ?_
    refine r_iload (pc := 50) C dX8_stays_50 rfl ?_
    refine r_if_eq (pc := 52) (tgt := 62) C dX8_stays_52 (by decide) (by first | omega | exact zand_rng _ _ | exact zor_rng _ _ | exact zxor_rng _ _ | exact BT.r (IT.b (by assumption)) _ _) (fun c52 => absurd c52 (by omega)) (fun c52 => ?_)
    refine r_aload_n (pc := 55) C 0 dX8_stays_55 rfl rfl ?_
    refine r_iload (pc := 56) C dX8_stays_56 rfl ?_
    refine r_callV (pc := 58) (is := [0, 1, 2, 3, 4]) C YX8_refuse dX8_stays_58 tw_185 (c_X8_refuse l G _ _ _ _ _ _ _ (by first | assumption | omega | exact zand_rng _ _ | exact zor_rng _ _ | exact zxor_rng _ _ | exact BT.r (IT.b (by assumption)) _ _)) 0 0 rfl rfl (ci := 8) rfl rfl rfl (by decide) rfl rfl (Nat.le_of_ble_eq_true rfl) ⟨rfl, rfl, by decide, by decide⟩ (jst_i (C_uall ..) ?_)
    exact r_iret (pc := 61) C hQ dX8_stays_61 rfl (fin_noE (by unfold q_stays; first | (rw [if_pos (by omega)]; first | done | assumption | omega) | (rw [if_neg (by omega)]; done)) (by omega) rfl)
  · have hz1 : zc (pAre N s) = 1 := zc_t (hpi.mp c11)
    refine r_aload_n (pc := 14) C 0 dX8_stays_14 rfl rfl ?_
    refine r_get (pc := 15) C 0 0 0 dX8_stays_15 in_X8 rfl rfl (ci := 8) rfl (by decide) tw_143 rfl rfl ?_
    refine r_iload_n (pc := 18) C 2 dX8_stays_18 rfl rfl ?_
    refine r_callV (pc := 19) (is := [1]) C YX6_hasLoft dX8_stays_19 tw_399 (c_X6_hasLoft l G _ _ _ (by first | assumption | omega | exact zand_rng _ _ | exact zor_rng _ _ | exact zxor_rng _ _ | exact BT.r (IT.b (by assumption)) _ _) (by first | assumption | omega | exact zand_rng _ _ | exact zor_rng _ _ | exact zxor_rng _ _ | exact BT.r (IT.b (by assumption)) _ _)) 1 0 rfl rfl (ci := 6) rfl rfl rfl (by decide) rfl rfl (Nat.le_of_ble_eq_true rfl) ⟨rfl, rfl, by decide, by decide⟩ (jst_i (C_u1 ..) ?_)
    refine r_ifb_eq (pc := 22) (tgt := 29) C dX8_stays_22 (by decide) (fun c22 => ?_) (fun c22 => ?_)
    · (try have hz1 : zc (pAre N s) = 0 := zc_f (fun z => c11 (hpi.mpr z)))
      refine r_iconst (pc := 29) C dX8_stays_29 ?_
      refine r_istore (pc := 30) C dX8_stays_30 (Nat.le_of_ble_eq_true rfl) ?_
      refine r_iload (pc := 32) C dX8_stays_32 rfl ?_
      refine r_if_eq (pc := 34) (tgt := 47) C dX8_stays_34 (by decide) (by first | omega | exact zand_rng _ _ | exact zor_rng _ _ | exact zxor_rng _ _ | exact BT.r (IT.b (by assumption)) _ _) (fun c34 => ?_) (fun c34 => absurd c34 (by omega))
      refine r_iconst (pc := 47) C dX8_stays_47 ?_
      refine r_istore (pc := 48) C dX8_stays_48 (Nat.le_of_ble_eq_true rfl) ?_
      refine r_iload (pc := 50) C dX8_stays_50 rfl ?_
      refine r_if_eq (pc := 52) (tgt := 62) C dX8_stays_52 (by decide) (by first | omega | exact zand_rng _ _ | exact zor_rng _ _ | exact zxor_rng _ _ | exact BT.r (IT.b (by assumption)) _ _) (fun c52 => absurd c52 (by omega)) (fun c52 => ?_)
      refine r_aload_n (pc := 55) C 0 dX8_stays_55 rfl rfl ?_
      refine r_iload (pc := 56) C dX8_stays_56 rfl ?_
      refine r_callV (pc := 58) (is := [0, 1, 2, 3, 4]) C YX8_refuse dX8_stays_58 tw_185 (c_X8_refuse l G _ _ _ _ _ _ _ (by first | assumption | omega | exact zand_rng _ _ | exact zor_rng _ _ | exact zxor_rng _ _ | exact BT.r (IT.b (by assumption)) _ _)) 0 0 rfl rfl (ci := 8) rfl rfl rfl (by decide) rfl rfl (Nat.le_of_ble_eq_true rfl) ⟨rfl, rfl, by decide, by decide⟩ (jst_i (C_uall ..) ?_)
      exact r_iret (pc := 61) C hQ dX8_stays_61 rfl (fin_noE (by unfold q_stays; first | (rw [if_pos (by omega)]; first | done | assumption | omega) | (rw [if_neg (by omega)]; done)) (by omega) rfl)
    · refine r_iconst (pc := 25) C dX8_stays_25 ?_
      refine r_goto (pc := 26) (tgt := 30) C dX8_stays_26 (by decide) ?_
      refine r_istore (pc := 30) C dX8_stays_30 (Nat.le_of_ble_eq_true rfl) ?_
      refine r_iload (pc := 32) C dX8_stays_32 rfl ?_
      refine r_if_eq (pc := 34) (tgt := 47) C dX8_stays_34 (by decide) (by first | omega | exact zand_rng _ _ | exact zor_rng _ _ | exact zxor_rng _ _ | exact BT.r (IT.b (by assumption)) _ _) (fun c34 => absurd c34 (by omega)) (fun c34 => ?_)
      refine r_iload_n (pc := 37) C 3 dX8_stays_37 rfl rfl ?_
      refine r_iconst (pc := 38) C dX8_stays_38 ?_
      refine r_bipush (pc := 39) C dX8_stays_39 (by decide) ?_
      refine r_callS (pc := 41) (is := []) C YX8_outside dX8_stays_41 tw_178 (c_X8_outside l G _ _ _ (by first | assumption | omega | exact zand_rng _ _ | exact zor_rng _ _ | exact zxor_rng _ _ | exact BT.r (IT.b (by assumption)) _ _) (by first | assumption | omega | exact zand_rng _ _ | exact zor_rng _ _ | exact zxor_rng _ _ | exact BT.r (IT.b (by assumption)) _ _) (by first | assumption | omega | exact zand_rng _ _ | exact zor_rng _ _ | exact zxor_rng _ _ | exact BT.r (IT.b (by assumption)) _ _)) rfl (by decide) rfl rfl (Nat.le_of_ble_eq_true rfl) ⟨rfl, rfl, by decide, by decide⟩ (jst_i (ups_nil _) ?_)
      have hs41 := sOut_r k 0 40 (by decide)
      refine r_goto (pc := 44) (tgt := 48) C dX8_stays_44 (by decide) ?_
      refine r_istore (pc := 48) C dX8_stays_48 (Nat.le_of_ble_eq_true rfl) ?_
      refine r_iload (pc := 50) C dX8_stays_50 rfl ?_
      refine r_if_eq (pc := 52) (tgt := 62) C dX8_stays_52 (by decide) (by first | omega | exact zand_rng _ _ | exact zor_rng _ _ | exact zxor_rng _ _ | exact BT.r (IT.b (by assumption)) _ _) (fun c52 => ?_) (fun c52 => ?_)
      · have hpa := hpi.mp c11
        refine r_aload_n (pc := 62) C 0 dX8_stays_62 rfl rfl ?_
        refine r_iload_n (pc := 63) C 1 dX8_stays_63 rfl rfl ?_
        refine r_iload_n (pc := 64) C 2 dX8_stays_64 rfl rfl ?_
        refine r_iload_n (pc := 65) C 3 dX8_stays_65 rfl rfl ?_
        refine r_callV (pc := 66) (is := [0, 1, 2, 3, 4]) C YX8_gainByCarrying dX8_stays_66 tw_615 (c_X8_gainByCarrying l G _ _ _ _ _ _ _ _ _ (by first | assumption | omega | exact zand_rng _ _ | exact zor_rng _ _ | exact zxor_rng _ _ | exact BT.r (IT.b (by assumption)) _ _) (by first | assumption | omega | exact zand_rng _ _ | exact zor_rng _ _ | exact zxor_rng _ _ | exact BT.r (IT.b (by assumption)) _ _) (by first | assumption | omega | exact zand_rng _ _ | exact zor_rng _ _ | exact zxor_rng _ _ | exact BT.r (IT.b (by assumption)) _ _) (by first | assumption | omega | exact zand_rng _ _ | exact zor_rng _ _ | exact zxor_rng _ _ | exact BT.r (IT.b (by assumption)) _ _) (by first | assumption | omega | exact zand_rng _ _ | exact zor_rng _ _ | exact zxor_rng _ _ | exact BT.r (IT.b (by assumption)) _ _)) 0 0 rfl rfl (ci := 8) rfl rfl rfl (by decide) rfl rfl (Nat.le_of_ble_eq_true rfl) ⟨rfl, rfl, by decide, by decide⟩ ?_
        refine fun o g hq0 _ => ?_
        obtain ⟨rfl, F1, rfl, hF1⟩ := hq0
        show Wc K G _ _ [] (wC G a (up1 X 3 F1) N (sStayU N s q k) P S)
        refine r_aload_n (pc := 69) C 0 dX8_stays_69 rfl rfl ?_
        refine r_iload_n (pc := 70) C 1 dX8_stays_70 rfl rfl ?_
        refine r_callV (pc := 71) (is := [0, 1, 2, 3, 4]) C YX8_sumOfGains dX8_stays_71 tw_620 (c_X8_sumOfGains l G _ _ _ _ _ _ _ (by first | assumption | omega | exact zand_rng _ _ | exact zor_rng _ _ | exact zxor_rng _ _ | exact BT.r (IT.b (by assumption)) _ _) (by first | assumption | omega | exact zand_rng _ _ | exact zor_rng _ _ | exact zxor_rng _ _ | exact BT.r (IT.b (by assumption)) _ _)) 0 0 rfl rfl (ci := 8) rfl rfl rfl (by decide) rfl rfl (Nat.le_of_ble_eq_true rfl) ⟨rfl, rfl, by decide, by decide⟩ (jst_i (C_uall ..) ?_)
        exact r_iret (pc := 74) C hQ dX8_stays_74 rfl (fin_okE (by unfold q_stays; first | (rw [if_pos (by omega)]; first | done | assumption | omega) | (rw [if_neg (by omega)]; done)) (by exact v_stay_is hI ⟨hpa.1, hpa.2.1⟩ (by omega) (by omega) (by omega) hF1) (by exact congrArg (fun Z => wC G a Z N (sStayU N s q k) P S) (up1_f X F1)))
      · refine r_aload_n (pc := 55) C 0 dX8_stays_55 rfl rfl ?_
        refine r_iload (pc := 56) C dX8_stays_56 rfl ?_
        refine r_callV (pc := 58) (is := [0, 1, 2, 3, 4]) C YX8_refuse dX8_stays_58 tw_185 (c_X8_refuse l G _ _ _ _ _ _ _ (by first | assumption | omega | exact zand_rng _ _ | exact zor_rng _ _ | exact zxor_rng _ _ | exact BT.r (IT.b (by assumption)) _ _)) 0 0 rfl rfl (ci := 8) rfl rfl rfl (by decide) rfl rfl (Nat.le_of_ble_eq_true rfl) ⟨rfl, rfl, by decide, by decide⟩ (jst_i (C_uall ..) ?_)
        exact r_iret (pc := 61) C hQ dX8_stays_61 rfl (fin_noE (by unfold q_stays; first | (rw [if_pos (by omega)]; first | done | assumption | omega) | (rw [if_neg (by omega)]; done)) (by omega) rfl)

