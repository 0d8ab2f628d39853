theorem zc_zb {p q : Prop} [Decidable q] (h : p ↔ q) : zb q = zc p := by
  by_cases e : q
  · rw [zb_t e, zc_t (h.mpr e)]
  · rw [zb_f e, zc_f (fun z => e (h.mp z))]
theorem if_zc {α : Type} {p q : Prop} [Decidable q] {a a' b : α} (h : p ↔ q) (ha : a = a') : (if q then a else b) = (if zc p = 1 then a' else b) := by
  subst ha
  by_cases e : q
  · rw [if_pos e, if_pos (zc_t (h.mpr e))]
  · rw [if_neg e, if_neg (by rw [zc_f (fun z => e (h.mp z))]; decide)]
section
variable {L : Int → Int} {n p : Int} {U : Tn}
theorem ok_l (h : sg L n p = 108) (hL : 0 ≤ U 0 0 ∧ U 0 0 ≤ 6) : sOk L n p U ↔ U 0 0 < 6 := by
  unfold sOk
  rw [if_pos h]
  omega
theorem to_l (h : sg L n p = 108) : up (up (up U 1 (U 0 0) (sg L n (p + 1) - 48)) 2 (U 0 0) (sg L n (p + 1 + 1) - 48)) 0 0 (U 0 0 + 1) = sTo L n p U := by
  unfold sTo
  rw [if_pos h]
theorem ok_d (h : sg L n p = 100) (hD : 0 ≤ U 0 1 ∧ U 0 1 ≤ 8) (hn : sDg (sg L n (p + 1 + 1))) : sOk L n p U ↔ U 0 1 < 8 ∧ 0 ≤ sg L n (p + 1 + 1) - 48 ∧ sg L n (p + 1 + 1) - 48 < U 0 0 := by
  unfold sOk
  rw [if_neg (by omega), if_pos h]
  omega
theorem to_d (h : sg L n p = 100) : sAdd U (sKind (sg L n (p + 1))) (sg L n (p + 1 + 1) - 48) (sg L n (p + 1 + 1 + 1) - 48) = sTo L n p U := by
  unfold sTo
  rw [if_neg (by omega), if_pos h]
theorem ok_o (h : sg L n p = 111) (hn : sDg (sg L n (p + 1))) : sOk L n p U ↔ 0 ≤ sg L n (p + 1) - 48 ∧ sg L n (p + 1) - 48 < U 0 0 := by
  unfold sOk
  rw [if_neg (by omega), if_neg (by omega), if_pos h]
  omega
theorem to_o (h : sg L n p = 111) : up U 0 2 (zxor (U 0 2) (1 * zp2 (sg L n (p + 1) - 48))) = sTo L n p U := by
  unfold sTo
  rw [if_neg (by omega), if_neg (by omega), if_pos h]
theorem ok_h (h : sg L n p = 104) : sOk L n p U ↔ 0 ≤ sN2 L n (p + 1) ∧ sN2 L n (p + 1) ≤ 20 := by
  have := sN2_r L n (p + 1)
  unfold sOk
  rw [if_neg (by omega), if_neg (by omega), if_neg (by omega)]
  omega
theorem to_h (h : sg L n p = 104) : up U 0 3 (sN2 L n (p + 1)) = sTo L n p U := by
  unfold sTo
  rw [if_neg (by omega), if_neg (by omega), if_neg (by omega)]
theorem dg_h (h : sg L n p = 104) (hp : 0 ≤ p) (he : 0 ≤ sE L n p) : (if sDg (sg L n (p + 1 + 1)) then 10 * (sg L n (p + 1) - 48) + (sg L n (p + 1 + 1) - 48) else sg L n (p + 1) - 48) = sN2 L n (p + 1) := by
  have hd : sDg (sg L n (p + 1)) := by
    refine Classical.byContradiction (fun hd => ?_)
    have := sE_hd (L := L) (n := n) (p := p) h hd
    unfold sP2 at this
    rw [if_neg hd] at this
    omega
  unfold sN2
  rw [if_pos hd]
end
/-- the first place that doesn't fit, in the class's words -/
def v_fm (L : Int → Int) (n : Int) : Int := if sF L n 64 0 < 0 then -1 - sF L n 64 0 else -1
noncomputable def v_fu (L : Int → Int) (n : Int) (T : Tn) : Int := if (sG L n 65 0 T).1 < 0 then -1 - (sG L n 65 0 T).1 else -1
set_option maxRecDepth 100000 in
set_option maxHeartbeats 4000000 in
theorem c_X5_firstMisfit (l : Launch) (G : GT) (h : Nat → Nat) (S : Tn) (hs0 : 0 ≤ S 0 0 ∧ S 0 0 ≤ 64) (hsl : ∀ j, 0 ≤ S 1 j ∧ S 1 j ≤ 255) : Cn l yX5_firstMisfit cX5_firstMisfit 4 (Option.some .int) ({ frames := 10, cells := 0, slots := 0, locals := 225 }) G [.ref (h 0)] (wS G h S) (jst (some (.int (iI (v_fm (S 1) (S 0 0))))) (wS G h S)) := by
  refine Cn_in RX5 [some (.ref (h 0)), none, none, none] (by decide +kernel) rfl rfl rfl (Nat.le_of_ble_eq_true rfl) (fun K C hQ => ?_)
  have hLs : ∀ j, 0 ≤ S 1 j := fun j => (hsl j).1
  refine r_iconst (pc := 0) C dX5_firstMisfit_0 ?_
  refine r_istore_n (pc := 1) C 1 dX5_firstMisfit_1 rfl (Nat.le_of_ble_eq_true rfl) ?_
  refine r_iconst (pc := 2) C dX5_firstMisfit_2 ?_
  refine r_istore_n (pc := 3) C 2 dX5_firstMisfit_3 rfl (Nat.le_of_ble_eq_true rfl) ?_
  have L4 : ∀ (n : Nat) (i p : Int), i + n = 64 → 0 ≤ i → 3 * i ≤ p → p ≤ 64 → sF (S 1) (S 0 0) n p = sF (S 1) (S 0 0) 64 0 → Wc K G 4 [some (.ref (h 0)), some (.int (iI p)), some (.int (iI i)), none] [] (wS G h S) := by
    intro n
    induction n with
    | zero =>
      intro i p h1 h2 h3 h4; omega
    | succ n ih =>
      intro i p h1 h2 h3 h4 hq
      have hs := sF_s (S 1) (S 0 0) n p
      have heb := sE_b (L := S 1) (n := S 0 0) (p := p) (by omega)
      refine r_iload_n (pc := 4) C 2 dX5_firstMisfit_4 rfl rfl ?_
      refine r_bipush (pc := 5) C dX5_firstMisfit_5 (by decide) ?_
      refine r_icmp_ge (pc := 7) (tgt := 42) C dX5_firstMisfit_7 (by decide) (by first | omega | exact zand_rng _ _ | exact zor_rng _ _ | exact zxor_rng _ _ | exact BT.r (IT.b (by assumption)) _ _) (by first | omega | exact zand_rng _ _ | exact zor_rng _ _ | exact zxor_rng _ _ | exact BT.r (IT.b (by assumption)) _ _) (fun c7 => absurd c7 (by omega)) (fun c7 => ?_)
      refine r_aload_n (pc := 10) C 0 dX5_firstMisfit_10 rfl rfl ?_
      refine r_iload_n (pc := 11) C 1 dX5_firstMisfit_11 rfl rfl ?_
      refine r_callV (pc := 12) (is := [0]) C YX5_endOfStatement dX5_firstMisfit_12 tw_206 (c_X5_endOfStatement l G _ _ _ (by first | assumption | omega | exact zand_rng _ _ | exact zor_rng _ _ | exact zxor_rng _ _ | exact BT.r (IT.b (by assumption)) _ _) (by first | assumption | omega | exact zand_rng _ _ | exact zor_rng _ _ | exact zxor_rng _ _ | exact BT.r (IT.b (by assumption)) _ _) (by first | assumption | omega | exact zand_rng _ _ | exact zor_rng _ _ | exact zxor_rng _ _ | exact BT.r (IT.b (by assumption)) _ _)) 0 0 rfl rfl (ci := 5) rfl rfl rfl (by decide) rfl rfl (Nat.le_of_ble_eq_true rfl) ⟨rfl, rfl, by decide, by decide⟩ (jst_i (S_uall ..) ?_)
      refine r_istore_n (pc := 15) C 3 dX5_firstMisfit_15 rfl (Nat.le_of_ble_eq_true rfl) ?_
      refine r_iload_n (pc := 16) C 3 dX5_firstMisfit_16 rfl rfl ?_
      refine r_if_ge (pc := 17) (tgt := 24) C dX5_firstMisfit_17 (by decide) (by first | omega | exact zand_rng _ _ | exact zor_rng _ _ | exact zxor_rng _ _ | exact BT.r (IT.b (by assumption)) _ _) (fun c17 => ?_) (fun c17 => ?_)
      · refine r_iload_n (pc := 24) C 3 dX5_firstMisfit_24 rfl rfl ?_
        refine r_aload_n (pc := 25) C 0 dX5_firstMisfit_25 rfl rfl ?_
        refine r_get (pc := 26) C 0 0 1 dX5_firstMisfit_26 in_X5 rfl rfl (ci := 5) rfl (by decide) tw_136 rfl rfl ?_
        refine r_icmp_lt (pc := 29) (tgt := 34) C dX5_firstMisfit_29 (by decide) (by first | omega | exact zand_rng _ _ | exact zor_rng _ _ | exact zxor_rng _ _ | exact BT.r (IT.b (by assumption)) _ _) (by first | omega | exact zand_rng _ _ | exact zor_rng _ _ | exact zxor_rng _ _ | exact BT.r (IT.b (by assumption)) _ _) (fun c29 => ?_) (fun c29 => ?_)
        · refine r_iload_n (pc := 34) C 3 dX5_firstMisfit_34 rfl rfl ?_
          refine r_istore_n (pc := 35) C 1 dX5_firstMisfit_35 rfl (Nat.le_of_ble_eq_true rfl) ?_
          refine r_iinc (pc := 36) C dX5_firstMisfit_36 rfl ?_
          refine r_goto (pc := 39) (tgt := 4) C dX5_firstMisfit_39 (by decide) ?_
          have hr := sE_r (by omega) hLs (show 0 ≤ sE (S 1) (S 0 0) p by omega)
          refine Wc.to (ih (i + 1) (sE (S 1) (S 0 0) p) (by omega) (by omega) (by omega) (by omega) (by rw [← hq, hs, if_neg (by omega), if_neg (by omega)])) rfl (lsub_s rfl (lsub_s rfl (lsub_s rfl (lsub_n lsub_0)))) rfl
        · refine r_iconst (pc := 32) C dX5_firstMisfit_32 ?_
          have hf : sF (S 1) (S 0 0) 64 0 = sE (S 1) (S 0 0) p := by rw [← hq, hs, if_neg (show ¬ sE (S 1) (S 0 0) p < 0 by omega), if_pos (show S 0 0 ≤ sE (S 1) (S 0 0) p by omega)]
          exact r_iret (pc := 33) C hQ dX5_firstMisfit_33 rfl (jst_ri (by unfold v_fm; rw [hf, if_neg (by omega)]) rfl)
      · refine r_iconst (pc := 20) C dX5_firstMisfit_20 ?_
        refine r_iload_n (pc := 21) C 3 dX5_firstMisfit_21 rfl rfl ?_
        refine r_isub (pc := 22) C dX5_firstMisfit_22 ?_
        have hf : sF (S 1) (S 0 0) 64 0 = sE (S 1) (S 0 0) p := by rw [← hq, hs, if_pos (show sE (S 1) (S 0 0) p < 0 by omega)]
        exact r_iret (pc := 23) C hQ dX5_firstMisfit_23 rfl (jst_ri (by unfold v_fm; rw [hf, if_pos (by omega)]) rfl)
  refine Wc.to (L4 64 0 0 (by omega) (by omega) (by omega) (by omega) rfl) rfl (lsub_s rfl (lsub_s rfl (lsub_s rfl (lsub_n lsub_0)))) rfl

set_option maxRecDepth 100000 in
set_option maxHeartbeats 4000000 in
theorem c_X5_tell (l : Launch) (G : GT) (h hS : Nat → Nat) (T S : Tn) (p : Int) (hI : IT T) (hs0 : 0 ≤ S 0 0 ∧ S 0 0 ≤ 64) (hsl : ∀ j, 0 ≤ S 1 j ∧ S 1 j ≤ 255) (hp : 0 ≤ p ∧ p ≤ 64) (he : 0 ≤ sE (S 1) (S 0 0) p) : Cn l yX5_tell cX5_tell 3 (Option.some .boolean) ({ frames := 8, cells := 0, slots := 0, locals := 179 }) G [.ref (hS 0), .ref (h 0), .int (iI p)] (wV G h hS T S) (jst (some (.int (iI (zc (sOk (S 1) (S 0 0) p T))))) (wV G h hS (if zc (sOk (S 1) (S 0 0) p T) = 1 then sTo (S 1) (S 0 0) p T else T) S)) := by
  refine Cn_in RX5 [some (.ref (hS 0)), some (.ref (h 0)), some (.int (iI p))] (by decide +kernel) rfl rfl rfl (Nat.le_of_ble_eq_true rfl) (fun K C hQ => ?_)
  have hsr := fun q => sg_r hsl (S 0 0) q
  have hnm := sE_nm (by omega) he
  obtain ⟨n1, n2, n3, n4, n5⟩ := hnm
  have hLL := hI.L
  have hDD := hI.D
  have hq0 := hsr p
  have hq1 := hsr (p + 1)
  have hq2 := hsr (p + 1 + 1)
  have hq3 := hsr (p + 1 + 1 + 1)
  refine r_aload_n (pc := 0) C 0 dX5_tell_0 rfl rfl ?_
  refine r_iload_n (pc := 1) C 2 dX5_tell_1 rfl rfl ?_
  refine r_callV (pc := 2) (is := [1]) C YX5_signAt dX5_tell_2 tw_210 (c_X5_signAt l G _ _ _ (by first | assumption | omega | exact zand_rng _ _ | exact zor_rng _ _ | exact zxor_rng _ _ | exact BT.r (IT.b (by assumption)) _ _) (by first | assumption | omega | exact zand_rng _ _ | exact zor_rng _ _ | exact zxor_rng _ _ | exact BT.r (IT.b (by assumption)) _ _)) 1 0 rfl rfl (ci := 5) rfl rfl rfl (by decide) rfl rfl (Nat.le_of_ble_eq_true rfl) ⟨rfl, rfl, by decide, by decide⟩ (jst_i (V_u1 ..) ?_)
  by_cases s5_100 : sg (S 1) (S 0 0) p = 100
  · refine r_look (pc := 5) (tgt := 67) (off := 62) C dX5_tell_5 (by first | omega | exact zand_rng _ _ | exact zor_rng _ _ | exact zxor_rng _ _ | exact BT.r (IT.b (by assumption)) _ _) (by decide) (by (try show Op.lookupswitch.offset _ _ _ = _); rw [s5_100]; (try exact z_osy)) (by decide) ?_
    refine r_aload_n (pc := 67) C 1 dX5_tell_67 rfl rfl ?_
    refine r_aload_n (pc := 68) C 0 dX5_tell_68 rfl rfl ?_
    refine r_iload_n (pc := 69) C 2 dX5_tell_69 rfl rfl ?_
    refine r_iconst (pc := 70) C dX5_tell_70 ?_
    refine r_iadd (pc := 71) C dX5_tell_71 ?_
    refine r_callV (pc := 72) (is := [1]) C YX5_signAt dX5_tell_72 tw_210 (c_X5_signAt l G _ _ _ (by first | assumption | omega | exact zand_rng _ _ | exact zor_rng _ _ | exact zxor_rng _ _ | exact BT.r (IT.b (by assumption)) _ _) (by first | assumption | omega | exact zand_rng _ _ | exact zor_rng _ _ | exact zxor_rng _ _ | exact BT.r (IT.b (by assumption)) _ _)) 1 0 rfl rfl (ci := 5) rfl rfl rfl (by decide) rfl rfl (Nat.le_of_ble_eq_true rfl) ⟨rfl, rfl, by decide, by decide⟩ (jst_i (V_u1 ..) ?_)
    refine r_callS (pc := 75) (is := []) C YX5_kindOf dX5_tell_75 tw_280 (c_X5_kindOf l G _ (hsr _)) rfl (by decide) rfl rfl (Nat.le_of_ble_eq_true rfl) ⟨rfl, rfl, by decide, by decide⟩ (jst_i (ups_nil _) ?_)
    rw [show sKx (sg (S 1) (S 0 0) (p + 1)) = sKind (sg (S 1) (S 0 0) (p + 1)) by have h1 := sKx_k (sg (S 1) (S 0 0) (p + 1)); have h2 := (n2 s5_100).1; omega]
    refine r_aload_n (pc := 78) C 0 dX5_tell_78 rfl rfl ?_
    refine r_iload_n (pc := 79) C 2 dX5_tell_79 rfl rfl ?_
    refine r_iconst (pc := 80) C dX5_tell_80 ?_
    refine r_iadd (pc := 81) C dX5_tell_81 ?_
    rw [show p + 2 = p + 1 + 1 by omega]
    refine r_callV (pc := 82) (is := [1]) C YX5_digitAt dX5_tell_82 tw_358 (c_X5_digitAt l G _ _ _ (by first | assumption | omega | exact zand_rng _ _ | exact zor_rng _ _ | exact zxor_rng _ _ | exact BT.r (IT.b (by assumption)) _ _) (by first | assumption | omega | exact zand_rng _ _ | exact zor_rng _ _ | exact zxor_rng _ _ | exact BT.r (IT.b (by assumption)) _ _)) 1 0 rfl rfl (ci := 5) rfl rfl rfl (by decide) rfl rfl (Nat.le_of_ble_eq_true rfl) ⟨rfl, rfl, by decide, by decide⟩ (jst_i (V_u1 ..) ?_)
    refine r_aload_n (pc := 85) C 0 dX5_tell_85 rfl rfl ?_
    refine r_iload_n (pc := 86) C 2 dX5_tell_86 rfl rfl ?_
    refine r_iconst (pc := 87) C dX5_tell_87 ?_
    refine r_iadd (pc := 88) C dX5_tell_88 ?_
    rw [show p + 3 = p + 1 + 1 + 1 by omega]
    refine r_callV (pc := 89) (is := [1]) C YX5_digitAt dX5_tell_89 tw_358 (c_X5_digitAt l G _ _ _ (by first | assumption | omega | exact zand_rng _ _ | exact zor_rng _ _ | exact zxor_rng _ _ | exact BT.r (IT.b (by assumption)) _ _) (by first | assumption | omega | exact zand_rng _ _ | exact zor_rng _ _ | exact zxor_rng _ _ | exact BT.r (IT.b (by assumption)) _ _)) 1 0 rfl rfl (ci := 5) rfl rfl rfl (by decide) rfl rfl (Nat.le_of_ble_eq_true rfl) ⟨rfl, rfl, by decide, by decide⟩ (jst_i (V_u1 ..) ?_)
    refine r_callV (pc := 92) (is := [0]) C YX6_addDove dX5_tell_92 tw_366 (c_X6_addDove l G _ _ _ _ _ (by first | assumption | omega | exact zand_rng _ _ | exact zor_rng _ _ | exact zxor_rng _ _ | exact BT.r (IT.b (by assumption)) _ _) (by first | assumption | omega | exact zand_rng _ _ | exact zor_rng _ _ | exact zxor_rng _ _ | exact BT.r (IT.b (by assumption)) _ _) (by first | assumption | omega | exact zand_rng _ _ | exact zor_rng _ _ | exact zxor_rng _ _ | exact BT.r (IT.b (by assumption)) _ _) (by first | assumption | omega | exact zand_rng _ _ | exact zor_rng _ _ | exact zxor_rng _ _ | exact BT.r (IT.b (by assumption)) _ _)) 0 0 rfl rfl (ci := 6) rfl rfl rfl (by decide) rfl rfl (Nat.le_of_ble_eq_true rfl) ⟨rfl, rfl, by decide, by decide⟩ (jst_i (V_u0 ..) ?_)
    exact r_zret (pc := 95) C hQ dX5_tell_95 (by first | exact zb_01 _ | omega) rfl (jst_ri (by exact zc_zb (ok_d s5_100 hDD (n2 s5_100).2.1)) (by first | (rw [if_zc (ok_l s5_108 hLL) (to_l s5_108)]; done) | (rw [if_zc (ok_d s5_100 hDD (n2 s5_100).2.1) (to_d s5_100)]; done) | (rw [if_zc (ok_o s5_111 (n3 s5_111)) (to_o s5_111)]; done) | (rw [if_zc (ok_h s5_104) (to_h s5_104)]; done)))
  by_cases s5_104 : sg (S 1) (S 0 0) p = 104
  · refine r_look (pc := 5) (tgt := 108) (off := 103) C dX5_tell_5 (by first | omega | exact zand_rng _ _ | exact zor_rng _ _ | exact zxor_rng _ _ | exact BT.r (IT.b (by assumption)) _ _) (by decide) (by (try show Op.lookupswitch.offset _ _ _ = _); rw [z_osw s5_100]; rw [s5_104]; (try exact z_osy)) (by decide) ?_
    refine r_aload_n (pc := 108) C 1 dX5_tell_108 rfl rfl ?_
    refine r_aload_n (pc := 109) C 0 dX5_tell_109 rfl rfl ?_
    refine r_iload_n (pc := 110) C 2 dX5_tell_110 rfl rfl ?_
    refine r_iconst (pc := 111) C dX5_tell_111 ?_
    refine r_iadd (pc := 112) C dX5_tell_112 ?_
    refine r_callV (pc := 113) (is := [1]) C YX5_numberAt dX5_tell_113 tw_378 (c_X5_numberAt l G _ _ _ (by first | assumption | omega | exact zand_rng _ _ | exact zor_rng _ _ | exact zxor_rng _ _ | exact BT.r (IT.b (by assumption)) _ _) (by first | assumption | omega | exact zand_rng _ _ | exact zor_rng _ _ | exact zxor_rng _ _ | exact BT.r (IT.b (by assumption)) _ _) (by first | assumption | omega | exact zand_rng _ _ | exact zor_rng _ _ | exact zxor_rng _ _ | exact BT.r (IT.b (by assumption)) _ _)) 1 0 rfl rfl (ci := 5) rfl rfl rfl (by decide) rfl rfl (Nat.le_of_ble_eq_true rfl) ⟨rfl, rfl, by decide, by decide⟩ (jst_i (V_u1 ..) ?_)
    rw [dg_h (by omega) (by omega) he]
    have hN2 := sN2_r (S 1) (S 0 0) (p + 1)
    refine r_callV (pc := 116) (is := [0]) C YX6_takeHawk dX5_tell_116 tw_382 (c_X6_takeHawk l G _ _ _ (by first | assumption | omega | exact zand_rng _ _ | exact zor_rng _ _ | exact zxor_rng _ _ | exact BT.r (IT.b (by assumption)) _ _)) 0 0 rfl rfl (ci := 6) rfl rfl rfl (by decide) rfl rfl (Nat.le_of_ble_eq_true rfl) ⟨rfl, rfl, by decide, by decide⟩ (jst_i (V_u0 ..) ?_)
    exact r_zret (pc := 119) C hQ dX5_tell_119 (by first | exact zb_01 _ | omega) rfl (jst_ri (by exact zc_zb (ok_h s5_104)) (by first | (rw [if_zc (ok_l s5_108 hLL) (to_l s5_108)]; done) | (rw [if_zc (ok_d s5_100 hDD (n2 s5_100).2.1) (to_d s5_100)]; done) | (rw [if_zc (ok_o s5_111 (n3 s5_111)) (to_o s5_111)]; done) | (rw [if_zc (ok_h s5_104) (to_h s5_104)]; done)))
  by_cases s5_108 : sg (S 1) (S 0 0) p = 108
  · refine r_look (pc := 5) (tgt := 48) (off := 43) C dX5_tell_5 (by first | omega | exact zand_rng _ _ | exact zor_rng _ _ | exact zxor_rng _ _ | exact BT.r (IT.b (by assumption)) _ _) (by decide) (by (try show Op.lookupswitch.offset _ _ _ = _); rw [z_osw s5_100]; rw [z_osw s5_104]; rw [s5_108]; (try exact z_osy)) (by decide) ?_
    refine r_aload_n (pc := 48) C 1 dX5_tell_48 rfl rfl ?_
    refine r_aload_n (pc := 49) C 0 dX5_tell_49 rfl rfl ?_
    refine r_iload_n (pc := 50) C 2 dX5_tell_50 rfl rfl ?_
    refine r_iconst (pc := 51) C dX5_tell_51 ?_
    refine r_iadd (pc := 52) C dX5_tell_52 ?_
    refine r_callV (pc := 53) (is := [1]) C YX5_digitAt dX5_tell_53 tw_358 (c_X5_digitAt l G _ _ _ (by first | assumption | omega | exact zand_rng _ _ | exact zor_rng _ _ | exact zxor_rng _ _ | exact BT.r (IT.b (by assumption)) _ _) (by first | assumption | omega | exact zand_rng _ _ | exact zor_rng _ _ | exact zxor_rng _ _ | exact BT.r (IT.b (by assumption)) _ _)) 1 0 rfl rfl (ci := 5) rfl rfl rfl (by decide) rfl rfl (Nat.le_of_ble_eq_true rfl) ⟨rfl, rfl, by decide, by decide⟩ (jst_i (V_u1 ..) ?_)
    refine r_aload_n (pc := 56) C 0 dX5_tell_56 rfl rfl ?_
    refine r_iload_n (pc := 57) C 2 dX5_tell_57 rfl rfl ?_
    refine r_iconst (pc := 58) C dX5_tell_58 ?_
    refine r_iadd (pc := 59) C dX5_tell_59 ?_
    rw [show p + 2 = p + 1 + 1 by omega]
    refine r_callV (pc := 60) (is := [1]) C YX5_digitAt dX5_tell_60 tw_358 (c_X5_digitAt l G _ _ _ (by first | assumption | omega | exact zand_rng _ _ | exact zor_rng _ _ | exact zxor_rng _ _ | exact BT.r (IT.b (by assumption)) _ _) (by first | assumption | omega | exact zand_rng _ _ | exact zor_rng _ _ | exact zxor_rng _ _ | exact BT.r (IT.b (by assumption)) _ _)) 1 0 rfl rfl (ci := 5) rfl rfl rfl (by decide) rfl rfl (Nat.le_of_ble_eq_true rfl) ⟨rfl, rfl, by decide, by decide⟩ (jst_i (V_u1 ..) ?_)
    refine r_callV (pc := 63) (is := [0]) C YX6_addLoft dX5_tell_63 tw_362 (c_X6_addLoft l G _ _ _ _ (by first | assumption | omega | exact zand_rng _ _ | exact zor_rng _ _ | exact zxor_rng _ _ | exact BT.r (IT.b (by assumption)) _ _) (by first | assumption | omega | exact zand_rng _ _ | exact zor_rng _ _ | exact zxor_rng _ _ | exact BT.r (IT.b (by assumption)) _ _) (by first | assumption | omega | exact zand_rng _ _ | exact zor_rng _ _ | exact zxor_rng _ _ | exact BT.r (IT.b (by assumption)) _ _)) 0 0 rfl rfl (ci := 6) rfl rfl rfl (by decide) rfl rfl (Nat.le_of_ble_eq_true rfl) ⟨rfl, rfl, by decide, by decide⟩ (jst_i (V_u0 ..) ?_)
    exact r_zret (pc := 66) C hQ dX5_tell_66 (by first | exact zb_01 _ | omega) rfl (jst_ri (by exact zc_zb (ok_l s5_108 hLL)) (by first | (rw [if_zc (ok_l s5_108 hLL) (to_l s5_108)]; done) | (rw [if_zc (ok_d s5_100 hDD (n2 s5_100).2.1) (to_d s5_100)]; done) | (rw [if_zc (ok_o s5_111 (n3 s5_111)) (to_o s5_111)]; done) | (rw [if_zc (ok_h s5_104) (to_h s5_104)]; done)))
  by_cases s5_111 : sg (S 1) (S 0 0) p = 111
  · refine r_look (pc := 5) (tgt := 96) (off := 91) C dX5_tell_5 (by first | omega | exact zand_rng _ _ | exact zor_rng _ _ | exact zxor_rng _ _ | exact BT.r (IT.b (by assumption)) _ _) (by decide) (by (try show Op.lookupswitch.offset _ _ _ = _); rw [z_osw s5_100]; rw [z_osw s5_104]; rw [z_osw s5_108]; rw [s5_111]; (try exact z_osy)) (by decide) ?_
    refine r_aload_n (pc := 96) C 1 dX5_tell_96 rfl rfl ?_
    refine r_aload_n (pc := 97) C 0 dX5_tell_97 rfl rfl ?_
    refine r_iload_n (pc := 98) C 2 dX5_tell_98 rfl rfl ?_
    refine r_iconst (pc := 99) C dX5_tell_99 ?_
    refine r_iadd (pc := 100) C dX5_tell_100 ?_
    refine r_callV (pc := 101) (is := [1]) C YX5_digitAt dX5_tell_101 tw_358 (c_X5_digitAt l G _ _ _ (by first | assumption | omega | exact zand_rng _ _ | exact zor_rng _ _ | exact zxor_rng _ _ | exact BT.r (IT.b (by assumption)) _ _) (by first | assumption | omega | exact zand_rng _ _ | exact zor_rng _ _ | exact zxor_rng _ _ | exact BT.r (IT.b (by assumption)) _ _)) 1 0 rfl rfl (ci := 5) rfl rfl rfl (by decide) rfl rfl (Nat.le_of_ble_eq_true rfl) ⟨rfl, rfl, by decide, by decide⟩ (jst_i (V_u1 ..) ?_)
    refine r_callV (pc := 104) (is := [0]) C YX6_turnWindows dX5_tell_104 tw_374 (c_X6_turnWindows l G _ _ _ (by first | assumption | omega | exact zand_rng _ _ | exact zor_rng _ _ | exact zxor_rng _ _ | exact BT.r (IT.b (by assumption)) _ _) (by first | assumption | omega | exact zand_rng _ _ | exact zor_rng _ _ | exact zxor_rng _ _ | exact BT.r (IT.b (by assumption)) _ _)) 0 0 rfl rfl (ci := 6) rfl rfl rfl (by decide) rfl rfl (Nat.le_of_ble_eq_true rfl) ⟨rfl, rfl, by decide, by decide⟩ (jst_i (V_u0 ..) ?_)
    exact r_zret (pc := 107) C hQ dX5_tell_107 (by first | exact zb_01 _ | omega) rfl (jst_ri (by exact zc_zb (ok_o s5_111 (n3 s5_111))) (by first | (rw [if_zc (ok_l s5_108 hLL) (to_l s5_108)]; done) | (rw [if_zc (ok_d s5_100 hDD (n2 s5_100).2.1) (to_d s5_100)]; done) | (rw [if_zc (ok_o s5_111 (n3 s5_111)) (to_o s5_111)]; done) | (rw [if_zc (ok_h s5_104) (to_h s5_104)]; done)))
  refine r_look (pc := 5) (tgt := 120) (off := 115) C dX5_tell_5 (by first | omega | exact zand_rng _ _ | exact zor_rng _ _ | exact zxor_rng _ _ | exact BT.r (IT.b (by assumption)) _ _) (by decide) (by (try show Op.lookupswitch.offset _ _ _ = _); rw [z_osw s5_100]; rw [z_osw s5_104]; rw [z_osw s5_108]; rw [z_osw s5_111]; (try rfl)) (by decide) ?_
  exfalso; omega

set_option maxRecDepth 100000 in
set_option maxHeartbeats 4000000 in
theorem c_X5_firstUntellable (l : Launch) (G : GT) (h hS : Nat → Nat) (T S : Tn) (hI : IT T) (hs0 : 0 ≤ S 0 0 ∧ S 0 0 ≤ 64) (hsl : ∀ j, 0 ≤ S 1 j ∧ S 1 j ≤ 255) (hf : 0 ≤ sF (S 1) (S 0 0) 64 0) : Cn l yX5_firstUntellable cX5_firstUntellable 4 (Option.some .int) ({ frames := 10, cells := 0, slots := 0, locals := 225 }) G [.ref (hS 0), .ref (h 0)] (wV G h hS T S) (jst (some (.int (iI (v_fu (S 1) (S 0 0) T)))) (wV G h hS (sG (S 1) (S 0 0) 65 0 T).2 S)) := by
  refine Cn_in RX5 [some (.ref (hS 0)), some (.ref (h 0)), none, none] (by decide +kernel) rfl rfl rfl (Nat.le_of_ble_eq_true rfl) (fun K C hQ => ?_)
  have hLs : ∀ j, 0 ≤ S 1 j := fun j => (hsl j).1
  refine r_iconst (pc := 0) C dX5_firstUntellable_0 ?_
  refine r_istore_n (pc := 1) C 2 dX5_firstUntellable_1 rfl (Nat.le_of_ble_eq_true rfl) ?_
  refine r_iconst (pc := 2) C dX5_firstUntellable_2 ?_
  refine r_istore_n (pc := 3) C 3 dX5_firstUntellable_3 rfl (Nat.le_of_ble_eq_true rfl) ?_
  have L4 : ∀ (n : Nat) (i p : Int) (U : Tn), i + n = 64 → 0 ≤ i → 3 * i ≤ p → p ≤ 64 → (p < S 0 0 → ∃ m, 0 ≤ sF (S 1) (S 0 0) m p ∧ 64 ≤ p + m) → sG (S 1) (S 0 0) (n + 1) p U = sG (S 1) (S 0 0) 65 0 T → IT U → Wc K G 4 [some (.ref (hS 0)), some (.ref (h 0)), some (.int (iI p)), some (.int (iI i))] [] (wV G h hS U S) := by
    intro n
    induction n with
    | zero =>
      intro i p U h1 h2 h3 h4; omega
    | succ n ih =>
      intro i p U h1 h2 h3 h4 hfit hq hU
      have hs8 := sG_s (S 1) (S 0 0) (n + 1) p U
      refine r_iload_n (pc := 4) C 3 dX5_firstUntellable_4 rfl rfl ?_
      refine r_bipush (pc := 5) C dX5_firstUntellable_5 (by decide) ?_
      refine r_icmp_ge (pc := 7) (tgt := 45) C dX5_firstUntellable_7 (by decide) (by first | omega | exact zand_rng _ _ | exact zor_rng _ _ | exact zxor_rng _ _ | exact BT.r (IT.b (by assumption)) _ _) (by first | omega | exact zand_rng _ _ | exact zor_rng _ _ | exact zxor_rng _ _ | exact BT.r (IT.b (by assumption)) _ _) (fun c7 => absurd c7 (by omega)) (fun c7 => ?_)
      refine r_iload_n (pc := 10) C 2 dX5_firstUntellable_10 rfl rfl ?_
      refine r_if_lt (pc := 11) (tgt := 45) C dX5_firstUntellable_11 (by decide) (by first | omega | exact zand_rng _ _ | exact zor_rng _ _ | exact zxor_rng _ _ | exact BT.r (IT.b (by assumption)) _ _) (fun c11 => absurd c11 (by omega)) (fun c11 => ?_)
      refine r_iload_n (pc := 14) C 2 dX5_firstUntellable_14 rfl rfl ?_
      refine r_aload_n (pc := 15) C 0 dX5_firstUntellable_15 rfl rfl ?_
      refine r_get (pc := 16) C 1 0 1 dX5_firstUntellable_16 in_X5 rfl rfl (ci := 5) rfl (by decide) tw_136 rfl rfl ?_
      refine r_icmp_ge (pc := 19) (tgt := 45) C dX5_firstUntellable_19 (by decide) (by first | omega | exact zand_rng _ _ | exact zor_rng _ _ | exact zxor_rng _ _ | exact BT.r (IT.b (by assumption)) _ _) (by first | omega | exact zand_rng _ _ | exact zor_rng _ _ | exact zxor_rng _ _ | exact BT.r (IT.b (by assumption)) _ _) (fun c19 => ?_) (fun c19 => ?_)
      · refine r_iconst (pc := 45) C dX5_firstUntellable_45 ?_
        have hsg : sG (S 1) (S 0 0) 65 0 T = (p, U) := by rw [← hq, hs8, if_neg (by omega)]
        exact r_iret (pc := 46) C hQ dX5_firstUntellable_46 rfl (jst_ri (by unfold v_fu; rw [hsg, if_neg (by show ¬ p < 0; omega)]) (by rw [hsg]))
      · obtain ⟨m, hm1, hm2⟩ := hfit (by omega)
        obtain ⟨m, rfl⟩ : ∃ k, m = k + 1 := ⟨m - 1, by omega⟩
        have hsm := sF_s (S 1) (S 0 0) m p
        have hE : 0 ≤ sE (S 1) (S 0 0) p := by
          by_cases e : sE (S 1) (S 0 0) p < 0
          · rw [if_pos e] at hsm; omega
          · omega
        have hr := sE_r (by omega) hLs hE
        have hnm := sE_nm (by omega) hE
        have hfit2 : sE (S 1) (S 0 0) p < S 0 0 → ∃ m, 0 ≤ sF (S 1) (S 0 0) m (sE (S 1) (S 0 0) p) ∧ 64 ≤ sE (S 1) (S 0 0) p + m := fun q => ⟨m, by rw [if_neg (by omega), if_neg (by omega)] at hsm; omega, by omega⟩
        have hzz := zc_r (sOk (S 1) (S 0 0) p U)
        refine r_aload_n (pc := 22) C 0 dX5_firstUntellable_22 rfl rfl ?_
        refine r_aload_n (pc := 23) C 1 dX5_firstUntellable_23 rfl rfl ?_
        refine r_iload_n (pc := 24) C 2 dX5_firstUntellable_24 rfl rfl ?_
        refine r_callV (pc := 25) (is := [0, 1]) C YX5_tell dX5_firstUntellable_25 tw_354 (c_X5_tell l G _ _ _ _ _ (by first | assumption | omega | exact zand_rng _ _ | exact zor_rng _ _ | exact zxor_rng _ _ | exact BT.r (IT.b (by assumption)) _ _) (by first | assumption | omega | exact zand_rng _ _ | exact zor_rng _ _ | exact zxor_rng _ _ | exact BT.r (IT.b (by assumption)) _ _) (by first | assumption | omega | exact zand_rng _ _ | exact zor_rng _ _ | exact zxor_rng _ _ | exact BT.r (IT.b (by assumption)) _ _) (by first | assumption | omega | exact zand_rng _ _ | exact zor_rng _ _ | exact zxor_rng _ _ | exact BT.r (IT.b (by assumption)) _ _) (by first | assumption | omega | exact zand_rng _ _ | exact zor_rng _ _ | exact zxor_rng _ _ | exact BT.r (IT.b (by assumption)) _ _)) 1 0 rfl rfl (ci := 5) rfl rfl rfl (by decide) rfl rfl (Nat.le_of_ble_eq_true rfl) ⟨rfl, rfl, by decide, by decide⟩ (jst_i (V_uall ..) ?_)
        refine r_if_ne (pc := 28) (tgt := 33) C dX5_firstUntellable_28 (by decide) (by first | omega | exact zand_rng _ _ | exact zor_rng _ _ | exact zxor_rng _ _ | exact BT.r (IT.b (by assumption)) _ _) (fun c28 => ?_) (fun c28 => ?_)
        · rw [if_pos (by omega)]
          refine r_aload_n (pc := 33) C 0 dX5_firstUntellable_33 rfl rfl ?_
          refine r_iload_n (pc := 34) C 2 dX5_firstUntellable_34 rfl rfl ?_
          refine r_callV (pc := 35) (is := [1]) C YX5_endOfStatement dX5_firstUntellable_35 tw_206 (c_X5_endOfStatement l G _ _ _ (by first | assumption | omega | exact zand_rng _ _ | exact zor_rng _ _ | exact zxor_rng _ _ | exact BT.r (IT.b (by assumption)) _ _) (by first | assumption | omega | exact zand_rng _ _ | exact zor_rng _ _ | exact zxor_rng _ _ | exact BT.r (IT.b (by assumption)) _ _) (by first | assumption | omega | exact zand_rng _ _ | exact zor_rng _ _ | exact zxor_rng _ _ | exact BT.r (IT.b (by assumption)) _ _)) 1 0 rfl rfl (ci := 5) rfl rfl rfl (by decide) rfl rfl (Nat.le_of_ble_eq_true rfl) ⟨rfl, rfl, by decide, by decide⟩ (jst_i (V_u1 ..) ?_)
          refine r_istore_n (pc := 38) C 2 dX5_firstUntellable_38 rfl (Nat.le_of_ble_eq_true rfl) ?_
          refine r_iinc (pc := 39) C dX5_firstUntellable_39 rfl ?_
          refine r_goto (pc := 42) (tgt := 4) C dX5_firstUntellable_42 (by decide) ?_
          refine Wc.to (ih (i + 1) (sE (S 1) (S 0 0) p) (sTo (S 1) (S 0 0) p U) (by omega) (by omega) (by omega) (by omega) hfit2 (by rw [← hq, hs8, if_pos (by omega), if_pos (by omega)]) (IT_to hU hnm (by omega))) rfl (lsub_s rfl (lsub_s rfl (lsub_s rfl (lsub_s rfl lsub_0)))) rfl
        · rw [if_neg (by omega)]
          refine r_iload_n (pc := 31) C 2 dX5_firstUntellable_31 rfl rfl ?_
          have hsg : sG (S 1) (S 0 0) 65 0 T = (-1 - p, U) := by rw [← hq, hs8, if_pos (by omega), if_neg (by omega)]
          exact r_iret (pc := 32) C hQ dX5_firstUntellable_32 rfl (jst_ri (by unfold v_fu; rw [hsg, if_pos (by show -1 - p < 0; omega)]; show p = -1 - (-1 - p); omega) (by rw [hsg]))
  refine Wc.to (L4 64 0 0 T (by omega) (by omega) (by omega) (by omega) (fun _ => ⟨64, by omega, by omega⟩) rfl hI) rfl (lsub_s rfl (lsub_s rfl (lsub_s rfl (lsub_s rfl lsub_0)))) rfl

