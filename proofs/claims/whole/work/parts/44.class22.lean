theorem sF_r {L : Int → Int} {n : Int} (hn : n ≤ 64) : ∀ (k : Nat) (p : Int), 0 ≤ p → p ≤ 64 → -80 ≤ sF L n k p ∧ sF L n k p ≤ 80 := by
  intro k
  induction k with
  | zero =>
    intro p h0 h1
    show -80 ≤ p ∧ p ≤ 80
    omega
  | succ k ih =>
    intro p h0 h1
    have hb := sE_b (L := L) (n := n) (p := p) ⟨h0, h1⟩
    rw [sF_s]
    by_cases e : sE L n p < 0
    · rw [if_pos e]
      omega
    · rw [if_neg e]
      by_cases e2 : n ≤ sE L n p
      · rw [if_pos e2]
        omega
      · rw [if_neg e2]
        exact ih _ (by omega) (by omega)
theorem v_fm_r {L : Int → Int} {n : Int} (hn : n ≤ 64) : -1 ≤ v_fm L n ∧ v_fm L n ≤ 80 := by
  have := sF_r (L := L) hn 64 0 (by omega) (by omega)
  unfold v_fm
  split <;> omega
theorem sG_r {L : Int → Int} {n : Int} (hn : n ≤ 64) (hLs : ∀ j, 0 ≤ L j) : ∀ (k : Nat) (p : Int) (U : Tn), 0 ≤ p → p ≤ 64 → (p < n → ∃ m, 0 ≤ sF L n m p ∧ 64 ≤ p + m) → -65 ≤ (sG L n k p U).1 ∧ (sG L n k p U).1 ≤ 64 := by
  intro k
  induction k with
  | zero =>
    intro p U h0 h1 _
    show -65 ≤ p ∧ p ≤ 64
    omega
  | succ k ih =>
    intro p U h0 h1 hfit
    rw [sG_s]
    by_cases e : p < n
    · rw [if_pos e]
      obtain ⟨m, hm1, hm2⟩ := hfit e
      obtain ⟨m, rfl⟩ : ∃ k, m = k + 1 := ⟨m - 1, by omega⟩
      have hsm := sF_s L n m p
      have hE : 0 ≤ sE L n p := by
        by_cases e : sE L n p < 0
        · rw [if_pos e] at hsm; omega
        · omega
      have hr := sE_r h0 hLs hE
      by_cases e2 : zc (sOk L n p U) = 1
      · rw [if_pos e2]
        exact ih _ _ (by omega) (by omega) (fun q => ⟨m, by rw [if_neg (by omega), if_neg (by omega)] at hsm; omega, by omega⟩)
      · rw [if_neg e2]
        show -65 ≤ -1 - p ∧ -1 - p ≤ 64
        omega
    · rw [if_neg e]
      show -65 ≤ p ∧ p ≤ 64
      omega
theorem v_fu_r {L : Int → Int} {n : Int} (T : Tn) (hn : n ≤ 64) (hLs : ∀ j, 0 ≤ L j) (hf : 0 ≤ sF L n 64 0) : -1 ≤ v_fu L n T ∧ v_fu L n T ≤ 80 := by
  have := sG_r hn hLs 65 0 T (by omega) (by omega) (fun _ => ⟨64, hf, by omega⟩)
  unfold v_fu
  split <;> omega
def aTT (G : GT) (a : Nat → Nat) (X N P S S' : Tn) : Option Value → List va_W → Prop := fun o g => o = some (.int (iI (v_town (S 1) (S 0 0) N))) ∧ ∃ M', g = wC G a X (t_town (S 1) (S 0 0) N) M' P S'
set_option maxRecDepth 100000 in
set_option maxHeartbeats 4000000 in
theorem c_X8_textBecomesTown (l : Launch) (G : GT) (a : Nat → Nat) (X N M P S : Tn) (hI : IT N) (hX : IX X S) : Cn l yX8_textBecomesTown cX8_textBecomesTown 2 (Option.some .int) ({ frames := 11, cells := 0, slots := 0, locals := 248 }) G [.ref (a 0)] (wC G a X N M P S) (aTT G a X N P S S) := by
  refine Cn_in RX8 [some (.ref (a 0)), none] (by decide +kernel) rfl rfl rfl (Nat.le_of_ble_eq_true rfl) (fun K C hQ => ?_)
  obtain ⟨x1, s1, x3, s6, x8⟩ := hX
  have hBB := hI.b
  have hLL := hI.L
  have hDD := hI.D
  have hkk := hI.k
  have hLs : ∀ j, 0 ≤ S 1 j := fun j => (s6 j).1
  have hvr := v_fm_r (L := S 1) (n := S 0 0) (by omega)
  refine r_aload_n (pc := 0) C 0 dX8_textBecomesTown_0 rfl rfl ?_
  refine r_get (pc := 1) C 0 0 3 dX8_textBecomesTown_1 in_X8 rfl rfl (ci := 8) rfl (by decide) tw_146 rfl rfl ?_
  refine r_callV (pc := 4) (is := [4]) C YX5_firstMisfit dX8_textBecomesTown_4 tw_202 (c_X5_firstMisfit l G _ _ (by first | assumption | omega | exact zand_rng _ _ | exact zor_rng _ _ | exact zxor_rng _ _ | exact BT.r (IT.b (by assumption)) _ _) (by first | assumption | omega | exact zand_rng _ _ | exact zor_rng _ _ | exact zxor_rng _ _ | exact BT.r (IT.b (by assumption)) _ _)) 4 0 rfl rfl (ci := 5) rfl rfl rfl (by decide) rfl rfl (Nat.le_of_ble_eq_true rfl) ⟨rfl, rfl, by decide, by decide⟩ (jst_i (C_u4 ..) ?_)
  refine r_istore_n (pc := 7) C 1 dX8_textBecomesTown_7 rfl (Nat.le_of_ble_eq_true rfl) ?_
  refine r_iload_n (pc := 8) C 1 dX8_textBecomesTown_8 rfl rfl ?_
  refine r_iconst (pc := 9) C dX8_textBecomesTown_9 ?_
  refine r_icmp_eq (pc := 10) (tgt := 19) C dX8_textBecomesTown_10 (by decide) (by first | omega | exact zand_rng _ _ | exact zor_rng _ _ | exact zxor_rng _ _ | exact BT.r (IT.b (by assumption)) _ _) (by first | omega | exact zand_rng _ _ | exact zor_rng _ _ | exact zxor_rng _ _ | exact BT.r (IT.b (by assumption)) _ _) (fun c10 => ?_) (fun c10 => ?_)
  · have hs0f : 0 ≤ sF (S 1) (S 0 0) 64 0 := by
      refine Classical.byContradiction (fun e => ?_)
      have h2 : v_fm (S 1) (S 0 0) = -1 - sF (S 1) (S 0 0) 64 0 := if_pos (by omega)
      omega
    have hvu := v_fu_r N (by omega) hLs hs0f
    refine r_aload_n (pc := 19) C 0 dX8_textBecomesTown_19 rfl rfl ?_
    refine r_get (pc := 20) C 0 0 1 dX8_textBecomesTown_20 in_X8 rfl rfl (ci := 8) rfl (by decide) tw_144 rfl rfl ?_
    refine r_aload_n (pc := 23) C 0 dX8_textBecomesTown_23 rfl rfl ?_
    refine r_get (pc := 24) C 0 0 0 dX8_textBecomesTown_24 in_X8 rfl rfl (ci := 8) rfl (by decide) tw_143 rfl rfl ?_
    refine r_callV (pc := 27) (is := [2, 1]) C YX6_become dX8_textBecomesTown_27 tw_343 (c_X6_become l G _ _ _ _) 2 0 rfl rfl (ci := 6) rfl rfl rfl (by decide) rfl rfl (Nat.le_of_ble_eq_true rfl) ⟨rfl, rfl, by decide, by decide⟩ (jst_v (C_u2_1 ..) ?_)
    refine r_aload_n (pc := 30) C 0 dX8_textBecomesTown_30 rfl rfl ?_
    refine r_get (pc := 31) C 0 0 3 dX8_textBecomesTown_31 in_X8 rfl rfl (ci := 8) rfl (by decide) tw_146 rfl rfl ?_
    refine r_aload_n (pc := 34) C 0 dX8_textBecomesTown_34 rfl rfl ?_
    refine r_get (pc := 35) C 0 0 1 dX8_textBecomesTown_35 in_X8 rfl rfl (ci := 8) rfl (by decide) tw_144 rfl rfl ?_
    refine r_callV (pc := 38) (is := [2, 4]) C YX5_firstUntellable dX8_textBecomesTown_38 tw_350 (c_X5_firstUntellable l G _ _ _ _ (by first | assumption | omega | exact zand_rng _ _ | exact zor_rng _ _ | exact zxor_rng _ _ | exact BT.r (IT.b (by assumption)) _ _) (by first | assumption | omega | exact zand_rng _ _ | exact zor_rng _ _ | exact zxor_rng _ _ | exact BT.r (IT.b (by assumption)) _ _) (by first | assumption | omega | exact zand_rng _ _ | exact zor_rng _ _ | exact zxor_rng _ _ | exact BT.r (IT.b (by assumption)) _ _) (by first | assumption | omega | exact zand_rng _ _ | exact zor_rng _ _ | exact zxor_rng _ _ | exact BT.r (IT.b (by assumption)) _ _)) 4 0 rfl rfl (ci := 5) rfl rfl rfl (by decide) rfl rfl (Nat.le_of_ble_eq_true rfl) ⟨rfl, rfl, by decide, by decide⟩ (jst_i (C_u2_4 ..) ?_)
    refine r_istore_n (pc := 41) C 1 dX8_textBecomesTown_41 rfl (Nat.le_of_ble_eq_true rfl) ?_
    refine r_iload_n (pc := 42) C 1 dX8_textBecomesTown_42 rfl rfl ?_
    refine r_iconst (pc := 43) C dX8_textBecomesTown_43 ?_
    refine r_icmp_eq (pc := 44) (tgt := 53) C dX8_textBecomesTown_44 (by decide) (by first | omega | exact zand_rng _ _ | exact zor_rng _ _ | exact zxor_rng _ _ | exact BT.r (IT.b (by assumption)) _ _) (by first | omega | exact zand_rng _ _ | exact zor_rng _ _ | exact zxor_rng _ _ | exact BT.r (IT.b (by assumption)) _ _) (fun c44 => ?_) (fun c44 => ?_)
    · have hs0g : ¬ (sG (S 1) (S 0 0) 65 0 N).1 < 0 := by
        intro e
        have h2 : v_fu (S 1) (S 0 0) N = -1 - (sG (S 1) (S 0 0) 65 0 N).1 := if_pos e
        omega
      refine r_aload_n (pc := 53) C 0 dX8_textBecomesTown_53 rfl rfl ?_
      refine r_get (pc := 54) C 0 0 0 dX8_textBecomesTown_54 in_X8 rfl rfl (ci := 8) rfl (by decide) tw_143 rfl rfl ?_
      refine r_aload_n (pc := 57) C 0 dX8_textBecomesTown_57 rfl rfl ?_
      refine r_get (pc := 58) C 0 0 1 dX8_textBecomesTown_58 in_X8 rfl rfl (ci := 8) rfl (by decide) tw_144 rfl rfl ?_
      refine r_callV (pc := 61) (is := [1, 2]) C YX6_become dX8_textBecomesTown_61 tw_343 (c_X6_become l G _ _ _ _) 1 0 rfl rfl (ci := 6) rfl rfl rfl (by decide) rfl rfl (Nat.le_of_ble_eq_true rfl) ⟨rfl, rfl, by decide, by decide⟩ (jst_v (C_u1_2 ..) ?_)
      refine r_aload_n (pc := 64) C 0 dX8_textBecomesTown_64 rfl rfl ?_
      refine r_get (pc := 65) C 0 0 3 dX8_textBecomesTown_65 in_X8 rfl rfl (ci := 8) rfl (by decide) tw_146 rfl rfl ?_
      refine r_callV (pc := 68) (is := [4]) C YX5_statements dX8_textBecomesTown_68 tw_386 (c_X5_statements l G _ _ (by first | assumption | omega | exact zand_rng _ _ | exact zor_rng _ _ | exact zxor_rng _ _ | exact BT.r (IT.b (by assumption)) _ _) (by first | assumption | omega | exact zand_rng _ _ | exact zor_rng _ _ | exact zxor_rng _ _ | exact BT.r (IT.b (by assumption)) _ _)) 4 0 rfl rfl (ci := 5) rfl rfl rfl (by decide) rfl rfl (Nat.le_of_ble_eq_true rfl) ⟨rfl, rfl, by decide, by decide⟩ (jst_i (C_u4 ..) ?_)
      exact r_iret (pc := 71) C hQ dX8_textBecomesTown_71 rfl (by exact ⟨by unfold v_town; rw [if_neg (show ¬ sF (S 1) (S 0 0) 64 0 < 0 by omega), if_neg hs0g], _, by unfold t_town; rw [if_neg (show ¬ sF (S 1) (S 0 0) 64 0 < 0 by omega), if_neg hs0g]⟩)
    · have hs0g : (sG (S 1) (S 0 0) 65 0 N).1 < 0 := Classical.byContradiction (fun e => c44 (if_neg e))
      refine r_sipush (pc := 47) C dX8_textBecomesTown_47 (by decide) ?_
      refine r_iload_n (pc := 50) C 1 dX8_textBecomesTown_50 rfl rfl ?_
      refine r_isub (pc := 51) C dX8_textBecomesTown_51 ?_
      exact r_iret (pc := 52) C hQ dX8_textBecomesTown_52 rfl (by exact ⟨by unfold v_town v_fu; rw [if_neg (show ¬ sF (S 1) (S 0 0) 64 0 < 0 by omega), if_pos hs0g, if_pos hs0g]; congr 3; omega, _, by unfold t_town; rw [if_neg (show ¬ sF (S 1) (S 0 0) 64 0 < 0 by omega), if_pos hs0g]⟩)
  · have hs0f : sF (S 1) (S 0 0) 64 0 < 0 := Classical.byContradiction (fun e => c10 (if_neg e))
    refine r_sipush (pc := 13) C dX8_textBecomesTown_13 (by decide) ?_
    refine r_iload_n (pc := 16) C 1 dX8_textBecomesTown_16 rfl rfl ?_
    refine r_isub (pc := 17) C dX8_textBecomesTown_17 ?_
    exact r_iret (pc := 18) C hQ dX8_textBecomesTown_18 rfl (by exact ⟨by unfold v_town v_fm; rw [if_pos hs0f, if_pos hs0f]; congr 3; omega, M, by unfold t_town; rw [if_pos hs0f]⟩)

set_option maxRecDepth 100000 in
set_option maxHeartbeats 4000000 in
theorem c_X8_town (l : Launch) (G : GT) (a : Nat → Nat) (X N M P S : Tn) (hI : IT N) (hX : IX X S) : Cn l yX8_town cX8_town 2 (Option.some .int) ({ frames := 12, cells := 0, slots := 0, locals := 269 }) G [.ref (a 0)] (wC G a X N M P S) (aTT G a X N P S (up S 0 0 0)) := by
  refine Cn_in RX8 [some (.ref (a 0)), none] (by decide +kernel) rfl rfl rfl (Nat.le_of_ble_eq_true rfl) (fun K C hQ => ?_)
  have hX0 := hX
  refine r_aload_n (pc := 0) C 0 dX8_town_0 rfl rfl ?_
  refine r_callV (pc := 1) (is := [0, 1, 2, 3, 4]) C YX8_textBecomesTown dX8_town_1 tw_198 (c_X8_textBecomesTown l G _ _ _ _ _ _ (by first | assumption | omega | exact zand_rng _ _ | exact zor_rng _ _ | exact zxor_rng _ _ | exact BT.r (IT.b (by assumption)) _ _) (by first | assumption | omega | exact zand_rng _ _ | exact zor_rng _ _ | exact zxor_rng _ _ | exact BT.r (IT.b (by assumption)) _ _)) 0 0 rfl rfl (ci := 8) rfl rfl rfl (by decide) rfl rfl (Nat.le_of_ble_eq_true rfl) ⟨rfl, rfl, by decide, by decide⟩ ?_
  refine fun o g hq0 _ => ?_
  obtain ⟨rfl, M1, rfl⟩ := hq0
  show Wc K G _ _ (.int (iI (v_town (S 1) (S 0 0) N)) :: _) (wC G a X (t_town (S 1) (S 0 0) N) M1 P S)
  refine r_istore_n (pc := 4) C 1 dX8_town_4 rfl (Nat.le_of_ble_eq_true rfl) ?_
  refine r_aload_n (pc := 5) C 0 dX8_town_5 rfl rfl ?_
  refine r_get (pc := 6) C 0 0 3 dX8_town_6 in_X8 rfl rfl (ci := 8) rfl (by decide) tw_146 rfl rfl ?_
  refine r_callV (pc := 9) (is := [4]) C YX5_clear dX8_town_9 tw_390 (c_X5_clear l G _ _) 4 0 rfl rfl (ci := 5) rfl rfl rfl (by decide) rfl rfl (Nat.le_of_ble_eq_true rfl) ⟨rfl, rfl, by decide, by decide⟩ (jst_v (C_u4 ..) ?_)
  refine r_iload_n (pc := 12) C 1 dX8_town_12 rfl rfl ?_
  exact r_iret (pc := 13) C hQ dX8_town_13 rfl (by exact ⟨rfl, M1, rfl⟩)

