theorem sg_p {L : Int → Int} {n p : Int} (h : 0 ≤ sg L n p) : p < n := by
  unfold sg at h
  by_cases e : p < n
  · exact e
  · rw [if_neg e] at h
    omega
theorem sP2_r {L : Int → Int} {n p : Int} (hp : 0 ≤ p) (hn : n ≤ 64) (h : p ≤ n) : 0 ≤ sP2 L n p ∧ sP2 L n p ≤ 64 := by
  unfold sP2
  split
  next e =>
    have := sg_p (L := L) (n := n) (p := p) (by obtain ⟨a, b⟩ := e; omega)
    split
    next e2 =>
      have := sg_p (L := L) (n := n) (p := p + 1) (by obtain ⟨a, b⟩ := e2; omega)
      omega
    · omega
  · omega
theorem sE_hy {L : Int → Int} {n p : Int} (h : sg L n p = 104) (hd : sDg (sg L n (p + 1))) (hs : sg L n (sP2 L n (p + 1)) = 59) : sE L n p = sP2 L n (p + 1) + 1 := by
  unfold sE
  rw [if_neg (by omega), if_neg (by omega), if_neg (by omega), if_pos h]
  unfold sED
  rw [if_pos hd]
  unfold sP2 at hs ⊢
  rw [if_pos hd] at hs ⊢
  unfold sES
  by_cases e : sDg (sg L n (p + 1 + 1))
  · rw [if_pos e] at hs ⊢
    rw [if_pos e, if_pos hs]
  · rw [if_neg e] at hs ⊢
    rw [if_neg e, if_pos hs]
theorem sE_hn {L : Int → Int} {n p : Int} (h : sg L n p = 104) (hd : sDg (sg L n (p + 1))) (hs : ¬ sg L n (sP2 L n (p + 1)) = 59) : sE L n p = -1 - sP2 L n (p + 1) := by
  unfold sE
  rw [if_neg (by omega), if_neg (by omega), if_neg (by omega), if_pos h]
  unfold sED
  rw [if_pos hd]
  unfold sP2 at hs ⊢
  rw [if_pos hd] at hs ⊢
  unfold sES
  by_cases e : sDg (sg L n (p + 1 + 1))
  · rw [if_pos e] at hs ⊢
    rw [if_pos e, if_neg hs]
  · rw [if_neg e] at hs ⊢
    rw [if_neg e, if_neg hs]
theorem sE_hd {L : Int → Int} {n p : Int} (h : sg L n p = 104) (hd : ¬ sDg (sg L n (p + 1))) : sE L n p = -1 - sP2 L n (p + 1) := by
  unfold sE
  rw [if_neg (by omega), if_neg (by omega), if_neg (by omega), if_pos h]
  unfold sED sP2
  rw [if_neg hd, if_neg hd]
def aRS (G : GT) (b : Nat → Nat) (R T : Tn) (p : Int) : Option Value → List va_W → Prop := fun o g => o = some (.int (iI (zb (0 ≤ sE (R 6) (R 0 1) p)))) ∧ ∃ F', g = wR G b (rd R (if 0 ≤ sE (R 6) (R 0 1) p then sE (R 6) (R 0 1) p else -1 - sE (R 6) (R 0 1) p) F') T ∧ (0 ≤ sE (R 6) (R 0 1) p → sTl (R 6) (R 0 1) p F')
section
variable {G : GT} {b : Nat → Nat} {R T : Tn} {p q : Int} {F : Int → Int}
theorem aRS_y (e : sE (R 6) (R 0 1) p = q) (hq : 0 ≤ q) (h : sTl (R 6) (R 0 1) p F) : aRS G b R T p (some (.int (iI 1))) (wR G b (rd R q F) T) := by
  subst e
  exact ⟨by rw [zb_t hq], F, by rw [if_pos hq], fun _ => h⟩
theorem aRS_n (e : sE (R 6) (R 0 1) p = -1 - q) (hq : 0 ≤ q) : aRS G b R T p (some (.int (iI 0))) (wR G b (rd R q F) T) := by
  refine ⟨by rw [zb_f (by omega)], F, by rw [if_neg (by omega), show -1 - sE (R 6) (R 0 1) p = q by omega], fun h => by omega⟩
end
theorem sKind_m {c : Int} (h : 0 ≤ sKind c) : 98 ≤ c ∧ c ≤ 121 := by
  unfold sKind at h
  by_cases a : c = 100
  · omega
  · rw [if_neg a] at h
    by_cases a : c = 111
    · omega
    · rw [if_neg a] at h
      by_cases a : c = 121
      · omega
      · rw [if_neg a] at h
        by_cases a : c = 115
        · omega
        · rw [if_neg a] at h
          by_cases a : c = 98
          · omega
          · rw [if_neg a] at h
            by_cases a : c = 116
            · omega
            · rw [if_neg a] at h
              omega
set_option maxRecDepth 100000 in
set_option maxHeartbeats 4000000 in
theorem c_X9_takes (l : Launch) (G : GT) (b : Nat → Nat) (R T : Tn) (p : Int) (F : Int → Int) (c : Int) (hn1 : 0 ≤ R 0 1 ∧ R 0 1 ≤ 64) (h6 : ∀ j, 0 ≤ R 6 j ∧ R 6 j ≤ 255) (hp : 0 ≤ p ∧ p ≤ 64) (gc : -2147483648 ≤ c ∧ c < 2147483648) : Cn l yX9_takes cX9_takes 2 (Option.some .boolean) ({ frames := 1, cells := 0, slots := 0, locals := 20 }) G [.ref (b 0), .int (iI c)] (wR G b (rd R p F) T) (jst (some (.int (iI (zb (sg (R 6) (R 0 1) p = c))))) (wR G b (rd R (if sg (R 6) (R 0 1) p = c then p + 1 else p) F) T)) := by
  refine Cn_in RX9 [some (.ref (b 0)), some (.int (iI c))] (by decide +kernel) rfl rfl rfl (Nat.le_of_ble_eq_true rfl) (fun K C hQ => ?_)
  have e2 : rd R p F 0 2 = p := rfl
  have e1 : rd R p F 0 1 = R 0 1 := rfl
  have hsr := sg_r h6 (R 0 1) p
  refine r_aload_n (pc := 0) C 0 dX9_takes_0 rfl rfl ?_
  refine r_callV (pc := 1) (is := [0, 1, 2, 3, 4, 5, 6, 7, 8]) C YX9_sign dX9_takes_1 tw_801 (c_X9_sign l G _ _ _ _ _ (by first | assumption | omega | exact zand_rng _ _ | exact zor_rng _ _ | exact zxor_rng _ _ | exact BT.r (IT.b (by assumption)) _ _) (by first | assumption | omega | exact zand_rng _ _ | exact zor_rng _ _ | exact zxor_rng _ _ | exact BT.r (IT.b (by assumption)) _ _) (by first | assumption | omega | exact zand_rng _ _ | exact zor_rng _ _ | exact zxor_rng _ _ | exact BT.r (IT.b (by assumption)) _ _)) 0 0 rfl rfl (ci := 9) rfl rfl rfl (by decide) rfl rfl (Nat.le_of_ble_eq_true rfl) ⟨rfl, rfl, by decide, by decide⟩ (jst_i (R_uall ..) ?_)
  refine r_iload_n (pc := 4) C 1 dX9_takes_4 rfl rfl ?_
  refine r_icmp_eq (pc := 5) (tgt := 10) C dX9_takes_5 (by decide) (by first | omega | exact zand_rng _ _ | exact zor_rng _ _ | exact zxor_rng _ _ | exact BT.r (IT.b (by assumption)) _ _) (by first | omega | exact zand_rng _ _ | exact zor_rng _ _ | exact zxor_rng _ _ | exact BT.r (IT.b (by assumption)) _ _) (fun c5 => ?_) (fun c5 => ?_)
  · refine r_aload_n (pc := 10) C 0 dX9_takes_10 rfl rfl ?_
    refine r_dup (pc := 11) C dX9_takes_11 rfl ?_
    refine r_get (pc := 12) C 0 0 9 dX9_takes_12 in_X9 rfl rfl (ci := 9) rfl (by decide) tw_750 rfl rfl ?_
    refine r_iconst (pc := 15) C dX9_takes_15 ?_
    refine r_iadd (pc := 16) C dX9_takes_16 ?_
    refine r_put (pc := 17) C 0 0 9 dX9_takes_17 in_X9 tyX9_ok nmX9 rfl rfl (ci := 9) rfl (by decide) tw_750 rfl rfl (tyX9_ok 9 (by decide)) rfl rfl (Nat.le_of_ble_eq_true rfl) rfl (rd_p9 (q := p + 1) rfl) ?_
    refine r_iconst (pc := 20) C dX9_takes_20 ?_
    exact r_zret (pc := 21) C hQ dX9_takes_21 (by decide) rfl (jst_ri (by exact (zb_t c5).symm) (by first | rw [if_pos c5] | rw [if_neg c5]))
  · refine r_iconst (pc := 8) C dX9_takes_8 ?_
    exact r_zret (pc := 9) C hQ dX9_takes_9 (by decide) rfl (jst_ri (by exact (zb_f c5).symm) (by first | rw [if_pos c5] | rw [if_neg c5]))

set_option maxRecDepth 100000 in
set_option maxHeartbeats 4000000 in
theorem c_X9_readsNumber1 (l : Launch) (G : GT) (b : Nat → Nat) (R T : Tn) (p : Int) (F : Int → Int) (i : Int) (hn1 : 0 ≤ R 0 1 ∧ R 0 1 ≤ 64) (h6 : ∀ j, 0 ≤ R 6 j ∧ R 6 j ≤ 255) (hp : 0 ≤ p ∧ p ≤ 64) (hi : 0 ≤ i ∧ i < 3) : Cn l yX9_readsNumber cX9_readsNumber 4 (Option.some .boolean) ({ frames := 1, cells := 0, slots := 0, locals := 21 }) G [.ref (b 0), .int (iI i), .int (iI 1)] (wR G b (rd R p F) T) (jst (some (.int (iI (zb (sDg (sg (R 6) (R 0 1) p)))))) (wR G b (rd R (if sDg (sg (R 6) (R 0 1) p) then p + 1 else p) (zup F i (if sDg (sg (R 6) (R 0 1) p) then sg (R 6) (R 0 1) p - 48 else 0))) T)) := by
  refine Cn_in RX9 [some (.ref (b 0)), some (.int (iI i)), some (.int (iI 1)), none] (by decide +kernel) rfl rfl rfl (Nat.le_of_ble_eq_true rfl) (fun K C hQ => ?_)
  have e2 : rd R p F 0 2 = p := rfl
  have e1 : rd R p F 0 1 = R 0 1 := rfl
  have hsr := sg_r h6 (R 0 1) p
  have hsr2 := sg_r h6 (R 0 1) (p + 1)
  refine r_aload_n (pc := 0) C 0 dX9_readsNumber_0 rfl rfl ?_
  refine r_get (pc := 1) C 0 0 7 dX9_readsNumber_1 in_X9 rfl rfl (ci := 9) rfl (by decide) tw_748 rfl rfl ?_
  refine r_iload_n (pc := 4) C 1 dX9_readsNumber_4 rfl rfl ?_
  refine r_iconst (pc := 5) C dX9_readsNumber_5 ?_
  refine r_iastore (pc := 6) C 7 0 dX9_readsNumber_6 rfl rfl (by decide) (by omega) rfl (rd_a7 (F' := zup F i 0) rfl) ?_
  refine r_iconst (pc := 7) C dX9_readsNumber_7 ?_
  refine r_istore_n (pc := 8) C 3 dX9_readsNumber_8 rfl (Nat.le_of_ble_eq_true rfl) ?_
  refine r_iload_n (pc := 9) C 3 dX9_readsNumber_9 rfl rfl ?_
  refine r_iload_n (pc := 10) C 2 dX9_readsNumber_10 rfl rfl ?_
  refine r_icmp_ge (pc := 11) (tgt := 68) C dX9_readsNumber_11 (by decide) (by omega) (by omega) (fun c11 => absurd c11 (by omega)) (fun c11 => ?_)
  refine r_aload_n (pc := 14) C 0 dX9_readsNumber_14 rfl rfl ?_
  refine r_callV (pc := 15) (is := [0, 1, 2, 3, 4, 5, 6, 7, 8]) C YX9_sign dX9_readsNumber_15 tw_801 (c_X9_sign l G _ _ _ _ _ (by first | assumption | omega | exact zand_rng _ _ | exact zor_rng _ _ | exact zxor_rng _ _ | exact BT.r (IT.b (by assumption)) _ _) (by first | assumption | omega | exact zand_rng _ _ | exact zor_rng _ _ | exact zxor_rng _ _ | exact BT.r (IT.b (by assumption)) _ _) (by first | assumption | omega | exact zand_rng _ _ | exact zor_rng _ _ | exact zxor_rng _ _ | exact BT.r (IT.b (by assumption)) _ _)) 0 0 rfl rfl (ci := 9) rfl rfl rfl (by decide) rfl rfl (Nat.le_of_ble_eq_true rfl) ⟨rfl, rfl, by decide, by decide⟩ (jst_i (R_uall ..) ?_)
  refine r_bipush (pc := 18) C dX9_readsNumber_18 (by decide) ?_
  refine r_isub (pc := 20) C dX9_readsNumber_20 ?_
  refine r_bipush (pc := 21) C dX9_readsNumber_21 (by decide) ?_
  refine r_callS (pc := 23) (is := []) C YX9_isIn dX9_readsNumber_23 tw_809 (c_X9_isIn l G _ _ (by first | assumption | omega | exact zand_rng _ _ | exact zor_rng _ _ | exact zxor_rng _ _ | exact BT.r (IT.b (by assumption)) _ _) (by first | assumption | omega | exact zand_rng _ _ | exact zor_rng _ _ | exact zxor_rng _ _ | exact BT.r (IT.b (by assumption)) _ _)) rfl (by decide) rfl rfl (Nat.le_of_ble_eq_true rfl) ⟨rfl, rfl, by decide, by decide⟩ (jst_i rfl ?_)
  refine r_ifb_eq (pc := 26) (tgt := 68) C dX9_readsNumber_26 (by decide) (fun c26 => ?_) (fun c26 => ?_)
  · refine r_iload_n (pc := 68) C 3 dX9_readsNumber_68 rfl rfl ?_
    refine r_if_le (pc := 69) (tgt := 76) C dX9_readsNumber_69 (by decide) (by omega) (fun c69 => ?_) (fun c69 => absurd c69 (by omega))
    refine r_iconst (pc := 76) C dX9_readsNumber_76 ?_
    exact r_zret (pc := 77) C hQ dX9_readsNumber_77 (by decide) rfl (jst_ri (by rw [zb_f c26]) (by first | (rw [if_pos hq0, if_pos hq0]; done) | (rw [if_neg c26, if_neg c26]; rfl) | (rw [if_pos hq0, if_pos hq0]; rfl)))
  · have hq0 : sDg (sg (R 6) (R 0 1) p) := c26
    have hp1 := sg_p (L := R 6) (n := R 0 1) (p := p) (by omega)
    refine r_aload_n (pc := 29) C 0 dX9_readsNumber_29 rfl rfl ?_
    refine r_get (pc := 30) C 0 0 7 dX9_readsNumber_30 in_X9 rfl rfl (ci := 9) rfl (by decide) tw_748 rfl rfl ?_
    refine r_iload_n (pc := 33) C 1 dX9_readsNumber_33 rfl rfl ?_
    refine r_bipush (pc := 34) C dX9_readsNumber_34 (by decide) ?_
    refine r_aload_n (pc := 36) C 0 dX9_readsNumber_36 rfl rfl ?_
    refine r_get (pc := 37) C 0 0 7 dX9_readsNumber_37 in_X9 rfl rfl (ci := 9) rfl (by decide) tw_748 rfl rfl ?_
    refine r_iload_n (pc := 40) C 1 dX9_readsNumber_40 rfl rfl ?_
    refine r_ialoadE (pc := 41) C 7 0 dX9_readsNumber_41 rfl rfl (by decide) (by omega) (show zup F i 0 i = 0 from zup_s F i 0) ?_
    refine r_imul (pc := 42) C dX9_readsNumber_42 ?_
    refine r_aload_n (pc := 43) C 0 dX9_readsNumber_43 rfl rfl ?_
    refine r_callV (pc := 44) (is := [0, 1, 2, 3, 4, 5, 6, 7, 8]) C YX9_sign dX9_readsNumber_44 tw_801 (c_X9_sign l G _ _ _ _ _ (by first | assumption | omega | exact zand_rng _ _ | exact zor_rng _ _ | exact zxor_rng _ _ | exact BT.r (IT.b (by assumption)) _ _) (by first | assumption | omega | exact zand_rng _ _ | exact zor_rng _ _ | exact zxor_rng _ _ | exact BT.r (IT.b (by assumption)) _ _) (by first | assumption | omega | exact zand_rng _ _ | exact zor_rng _ _ | exact zxor_rng _ _ | exact BT.r (IT.b (by assumption)) _ _)) 0 0 rfl rfl (ci := 9) rfl rfl rfl (by decide) rfl rfl (Nat.le_of_ble_eq_true rfl) ⟨rfl, rfl, by decide, by decide⟩ (jst_i (R_uall ..) ?_)
    refine r_iadd (pc := 47) C dX9_readsNumber_47 ?_
    refine r_bipush (pc := 48) C dX9_readsNumber_48 (by decide) ?_
    refine r_isub (pc := 50) C dX9_readsNumber_50 ?_
    refine r_iastore (pc := 51) C 7 0 dX9_readsNumber_51 rfl rfl (by decide) (by omega) rfl (rd_a7 (F' := zup F i (sg (R 6) (R 0 1) p - 48)) (by rw [zup_zup, show 10 * 0 + sg (R 6) (R 0 1) p - 48 = sg (R 6) (R 0 1) p - 48 by omega])) ?_
    refine r_aload_n (pc := 52) C 0 dX9_readsNumber_52 rfl rfl ?_
    refine r_dup (pc := 53) C dX9_readsNumber_53 rfl ?_
    refine r_get (pc := 54) C 0 0 9 dX9_readsNumber_54 in_X9 rfl rfl (ci := 9) rfl (by decide) tw_750 rfl rfl ?_
    refine r_iconst (pc := 57) C dX9_readsNumber_57 ?_
    refine r_iadd (pc := 58) C dX9_readsNumber_58 ?_
    refine r_put (pc := 59) C 0 0 9 dX9_readsNumber_59 in_X9 tyX9_ok nmX9 rfl rfl (ci := 9) rfl (by decide) tw_750 rfl rfl (tyX9_ok 9 (by decide)) rfl rfl (Nat.le_of_ble_eq_true rfl) rfl (rd_p9 (q := p + 1) rfl) ?_
    refine r_iinc (pc := 62) C dX9_readsNumber_62 rfl ?_
    refine r_goto (pc := 65) (tgt := 9) C dX9_readsNumber_65 (by decide) ?_
    refine r_iload_n (pc := 9) C 3 dX9_readsNumber_9 rfl rfl ?_
    refine r_iload_n (pc := 10) C 2 dX9_readsNumber_10 rfl rfl ?_
    refine r_icmp_ge (pc := 11) (tgt := 68) C dX9_readsNumber_11 (by decide) (by omega) (by omega) (fun c11 => ?_) (fun c11 => absurd c11 (by omega))
    refine r_iload_n (pc := 68) C 3 dX9_readsNumber_68 rfl rfl ?_
    refine r_if_le (pc := 69) (tgt := 76) C dX9_readsNumber_69 (by decide) (by omega) (fun c69 => absurd c69 (by omega)) (fun c69 => ?_)
    refine r_iconst (pc := 72) C dX9_readsNumber_72 ?_
    refine r_goto (pc := 73) (tgt := 77) C dX9_readsNumber_73 (by decide) ?_
    exact r_zret (pc := 77) C hQ dX9_readsNumber_77 (by decide) rfl (jst_ri (by rw [zb_t hq0]) (by first | (rw [if_pos hq0, if_pos hq0]; done) | (rw [if_neg c26, if_neg c26]; rfl) | (rw [if_pos hq0, if_pos hq0]; rfl)))

set_option maxRecDepth 100000 in
set_option maxHeartbeats 4000000 in
theorem c_X9_readsNumber2 (l : Launch) (G : GT) (b : Nat → Nat) (R T : Tn) (p : Int) (F : Int → Int) (i : Int) (hn1 : 0 ≤ R 0 1 ∧ R 0 1 ≤ 64) (h6 : ∀ j, 0 ≤ R 6 j ∧ R 6 j ≤ 255) (hp : 0 ≤ p ∧ p ≤ 64) (hi : 0 ≤ i ∧ i < 3) : Cn l yX9_readsNumber cX9_readsNumber 4 (Option.some .boolean) ({ frames := 1, cells := 0, slots := 0, locals := 21 }) G [.ref (b 0), .int (iI i), .int (iI 2)] (wR G b (rd R p F) T) (jst (some (.int (iI (zb (sDg (sg (R 6) (R 0 1) p)))))) (wR G b (rd R (sP2 (R 6) (R 0 1) p) (zup F i (sN2 (R 6) (R 0 1) p))) T)) := by
  refine Cn_in RX9 [some (.ref (b 0)), some (.int (iI i)), some (.int (iI 2)), none] (by decide +kernel) rfl rfl rfl (Nat.le_of_ble_eq_true rfl) (fun K C hQ => ?_)
  have e2 : rd R p F 0 2 = p := rfl
  have e1 : rd R p F 0 1 = R 0 1 := rfl
  have hsr := sg_r h6 (R 0 1) p
  have hsr2 := sg_r h6 (R 0 1) (p + 1)
  refine r_aload_n (pc := 0) C 0 dX9_readsNumber_0 rfl rfl ?_
  refine r_get (pc := 1) C 0 0 7 dX9_readsNumber_1 in_X9 rfl rfl (ci := 9) rfl (by decide) tw_748 rfl rfl ?_
  refine r_iload_n (pc := 4) C 1 dX9_readsNumber_4 rfl rfl ?_
  refine r_iconst (pc := 5) C dX9_readsNumber_5 ?_
  refine r_iastore (pc := 6) C 7 0 dX9_readsNumber_6 rfl rfl (by decide) (by omega) rfl (rd_a7 (F' := zup F i 0) rfl) ?_
  refine r_iconst (pc := 7) C dX9_readsNumber_7 ?_
  refine r_istore_n (pc := 8) C 3 dX9_readsNumber_8 rfl (Nat.le_of_ble_eq_true rfl) ?_
  refine r_iload_n (pc := 9) C 3 dX9_readsNumber_9 rfl rfl ?_
  refine r_iload_n (pc := 10) C 2 dX9_readsNumber_10 rfl rfl ?_
  refine r_icmp_ge (pc := 11) (tgt := 68) C dX9_readsNumber_11 (by decide) (by omega) (by omega) (fun c11 => absurd c11 (by omega)) (fun c11 => ?_)
  refine r_aload_n (pc := 14) C 0 dX9_readsNumber_14 rfl rfl ?_
  refine r_callV (pc := 15) (is := [0, 1, 2, 3, 4, 5, 6, 7, 8]) C YX9_sign dX9_readsNumber_15 tw_801 (c_X9_sign l G _ _ _ _ _ (by first | assumption | omega | exact zand_rng _ _ | exact zor_rng _ _ | exact zxor_rng _ _ | exact BT.r (IT.b (by assumption)) _ _) (by first | assumption | omega | exact zand_rng _ _ | exact zor_rng _ _ | exact zxor_rng _ _ | exact BT.r (IT.b (by assumption)) _ _) (by first | assumption | omega | exact zand_rng _ _ | exact zor_rng _ _ | exact zxor_rng _ _ | exact BT.r (IT.b (by assumption)) _ _)) 0 0 rfl rfl (ci := 9) rfl rfl rfl (by decide) rfl rfl (Nat.le_of_ble_eq_true rfl) ⟨rfl, rfl, by decide, by decide⟩ (jst_i (R_uall ..) ?_)
  refine r_bipush (pc := 18) C dX9_readsNumber_18 (by decide) ?_
  refine r_isub (pc := 20) C dX9_readsNumber_20 ?_
  refine r_bipush (pc := 21) C dX9_readsNumber_21 (by decide) ?_
  refine r_callS (pc := 23) (is := []) C YX9_isIn dX9_readsNumber_23 tw_809 (c_X9_isIn l G _ _ (by first | assumption | omega | exact zand_rng _ _ | exact zor_rng _ _ | exact zxor_rng _ _ | exact BT.r (IT.b (by assumption)) _ _) (by first | assumption | omega | exact zand_rng _ _ | exact zor_rng _ _ | exact zxor_rng _ _ | exact BT.r (IT.b (by assumption)) _ _)) rfl (by decide) rfl rfl (Nat.le_of_ble_eq_true rfl) ⟨rfl, rfl, by decide, by decide⟩ (jst_i rfl ?_)
  refine r_ifb_eq (pc := 26) (tgt := 68) C dX9_readsNumber_26 (by decide) (fun c26 => ?_) (fun c26 => ?_)
  · refine r_iload_n (pc := 68) C 3 dX9_readsNumber_68 rfl rfl ?_
    refine r_if_le (pc := 69) (tgt := 76) C dX9_readsNumber_69 (by decide) (by omega) (fun c69 => ?_) (fun c69 => absurd c69 (by omega))
    refine r_iconst (pc := 76) C dX9_readsNumber_76 ?_
    exact r_zret (pc := 77) C hQ dX9_readsNumber_77 (by decide) rfl (jst_ri (by rw [zb_f c26]) (by unfold sP2 sN2; first | rw [if_pos hq0, if_pos hq0, if_pos hq1, if_pos hq1] | (rw [if_pos hq0, if_pos hq0, if_neg c26, if_neg c26]; rfl) | (rw [if_neg c26, if_neg c26]; rfl)))
  · have hq0 : sDg (sg (R 6) (R 0 1) p) := c26
    have hp1 := sg_p (L := R 6) (n := R 0 1) (p := p) (by omega)
    refine r_aload_n (pc := 29) C 0 dX9_readsNumber_29 rfl rfl ?_
    refine r_get (pc := 30) C 0 0 7 dX9_readsNumber_30 in_X9 rfl rfl (ci := 9) rfl (by decide) tw_748 rfl rfl ?_
    refine r_iload_n (pc := 33) C 1 dX9_readsNumber_33 rfl rfl ?_
    refine r_bipush (pc := 34) C dX9_readsNumber_34 (by decide) ?_
    refine r_aload_n (pc := 36) C 0 dX9_readsNumber_36 rfl rfl ?_
    refine r_get (pc := 37) C 0 0 7 dX9_readsNumber_37 in_X9 rfl rfl (ci := 9) rfl (by decide) tw_748 rfl rfl ?_
    refine r_iload_n (pc := 40) C 1 dX9_readsNumber_40 rfl rfl ?_
    refine r_ialoadE (pc := 41) C 7 0 dX9_readsNumber_41 rfl rfl (by decide) (by omega) (show zup F i 0 i = 0 from zup_s F i 0) ?_
    refine r_imul (pc := 42) C dX9_readsNumber_42 ?_
    refine r_aload_n (pc := 43) C 0 dX9_readsNumber_43 rfl rfl ?_
    refine r_callV (pc := 44) (is := [0, 1, 2, 3, 4, 5, 6, 7, 8]) C YX9_sign dX9_readsNumber_44 tw_801 (c_X9_sign l G _ _ _ _ _ (by first | assumption | omega | exact zand_rng _ _ | exact zor_rng _ _ | exact zxor_rng _ _ | exact BT.r (IT.b (by assumption)) _ _) (by first | assumption | omega | exact zand_rng _ _ | exact zor_rng _ _ | exact zxor_rng _ _ | exact BT.r (IT.b (by assumption)) _ _) (by first | assumption | omega | exact zand_rng _ _ | exact zor_rng _ _ | exact zxor_rng _ _ | exact BT.r (IT.b (by assumption)) _ _)) 0 0 rfl rfl (ci := 9) rfl rfl rfl (by decide) rfl rfl (Nat.le_of_ble_eq_true rfl) ⟨rfl, rfl, by decide, by decide⟩ (jst_i (R_uall ..) ?_)
    refine r_iadd (pc := 47) C dX9_readsNumber_47 ?_
    refine r_bipush (pc := 48) C dX9_readsNumber_48 (by decide) ?_
    refine r_isub (pc := 50) C dX9_readsNumber_50 ?_
    refine r_iastore (pc := 51) C 7 0 dX9_readsNumber_51 rfl rfl (by decide) (by omega) rfl (rd_a7 (F' := zup F i (sg (R 6) (R 0 1) p - 48)) (by rw [zup_zup, show 10 * 0 + sg (R 6) (R 0 1) p - 48 = sg (R 6) (R 0 1) p - 48 by omega])) ?_
    refine r_aload_n (pc := 52) C 0 dX9_readsNumber_52 rfl rfl ?_
    refine r_dup (pc := 53) C dX9_readsNumber_53 rfl ?_
    refine r_get (pc := 54) C 0 0 9 dX9_readsNumber_54 in_X9 rfl rfl (ci := 9) rfl (by decide) tw_750 rfl rfl ?_
    refine r_iconst (pc := 57) C dX9_readsNumber_57 ?_
    refine r_iadd (pc := 58) C dX9_readsNumber_58 ?_
    refine r_put (pc := 59) C 0 0 9 dX9_readsNumber_59 in_X9 tyX9_ok nmX9 rfl rfl (ci := 9) rfl (by decide) tw_750 rfl rfl (tyX9_ok 9 (by decide)) rfl rfl (Nat.le_of_ble_eq_true rfl) rfl (rd_p9 (q := p + 1) rfl) ?_
    refine r_iinc (pc := 62) C dX9_readsNumber_62 rfl ?_
    refine r_goto (pc := 65) (tgt := 9) C dX9_readsNumber_65 (by decide) ?_
    refine r_iload_n (pc := 9) C 3 dX9_readsNumber_9 rfl rfl ?_
    refine r_iload_n (pc := 10) C 2 dX9_readsNumber_10 rfl rfl ?_
    refine r_icmp_ge (pc := 11) (tgt := 68) C dX9_readsNumber_11 (by decide) (by omega) (by omega) (fun c11 => absurd c11 (by omega)) (fun c11 => ?_)
    refine r_aload_n (pc := 14) C 0 dX9_readsNumber_14 rfl rfl ?_
    refine r_callV (pc := 15) (is := [0, 1, 2, 3, 4, 5, 6, 7, 8]) C YX9_sign dX9_readsNumber_15 tw_801 (c_X9_sign l G _ _ _ _ _ (by first | assumption | omega | exact zand_rng _ _ | exact zor_rng _ _ | exact zxor_rng _ _ | exact BT.r (IT.b (by assumption)) _ _) (by first | assumption | omega | exact zand_rng _ _ | exact zor_rng _ _ | exact zxor_rng _ _ | exact BT.r (IT.b (by assumption)) _ _) (by first | assumption | omega | exact zand_rng _ _ | exact zor_rng _ _ | exact zxor_rng _ _ | exact BT.r (IT.b (by assumption)) _ _)) 0 0 rfl rfl (ci := 9) rfl rfl rfl (by decide) rfl rfl (Nat.le_of_ble_eq_true rfl) ⟨rfl, rfl, by decide, by decide⟩ (jst_i (R_uall ..) ?_)
    refine r_bipush (pc := 18) C dX9_readsNumber_18 (by decide) ?_
    refine r_isub (pc := 20) C dX9_readsNumber_20 ?_
    refine r_bipush (pc := 21) C dX9_readsNumber_21 (by decide) ?_
    refine r_callS (pc := 23) (is := []) C YX9_isIn dX9_readsNumber_23 tw_809 (c_X9_isIn l G _ _ (by first | assumption | omega | exact zand_rng _ _ | exact zor_rng _ _ | exact zxor_rng _ _ | exact BT.r (IT.b (by assumption)) _ _) (by first | assumption | omega | exact zand_rng _ _ | exact zor_rng _ _ | exact zxor_rng _ _ | exact BT.r (IT.b (by assumption)) _ _)) rfl (by decide) rfl rfl (Nat.le_of_ble_eq_true rfl) ⟨rfl, rfl, by decide, by decide⟩ (jst_i rfl ?_)
    refine r_ifb_eq (pc := 26) (tgt := 68) C dX9_readsNumber_26 (by decide) (fun c26 => ?_) (fun c26 => ?_)
    · refine r_iload_n (pc := 68) C 3 dX9_readsNumber_68 rfl rfl ?_
      refine r_if_le (pc := 69) (tgt := 76) C dX9_readsNumber_69 (by decide) (by omega) (fun c69 => absurd c69 (by omega)) (fun c69 => ?_)
      refine r_iconst (pc := 72) C dX9_readsNumber_72 ?_
      refine r_goto (pc := 73) (tgt := 77) C dX9_readsNumber_73 (by decide) ?_
      exact r_zret (pc := 77) C hQ dX9_readsNumber_77 (by decide) rfl (jst_ri (by rw [zb_t hq0]) (by unfold sP2 sN2; first | rw [if_pos hq0, if_pos hq0, if_pos hq1, if_pos hq1] | (rw [if_pos hq0, if_pos hq0, if_neg c26, if_neg c26]; rfl) | (rw [if_neg c26, if_neg c26]; rfl)))
    · have hq1 : sDg (sg (R 6) (R 0 1) (p + 1)) := c26
      refine r_aload_n (pc := 29) C 0 dX9_readsNumber_29 rfl rfl ?_
      refine r_get (pc := 30) C 0 0 7 dX9_readsNumber_30 in_X9 rfl rfl (ci := 9) rfl (by decide) tw_748 rfl rfl ?_
      refine r_iload_n (pc := 33) C 1 dX9_readsNumber_33 rfl rfl ?_
      refine r_bipush (pc := 34) C dX9_readsNumber_34 (by decide) ?_
      refine r_aload_n (pc := 36) C 0 dX9_readsNumber_36 rfl rfl ?_
      refine r_get (pc := 37) C 0 0 7 dX9_readsNumber_37 in_X9 rfl rfl (ci := 9) rfl (by decide) tw_748 rfl rfl ?_
      refine r_iload_n (pc := 40) C 1 dX9_readsNumber_40 rfl rfl ?_
      refine r_ialoadE (pc := 41) C 7 0 dX9_readsNumber_41 rfl rfl (by decide) (by omega) (show zup F i (sg (R 6) (R 0 1) p - 48) i = sg (R 6) (R 0 1) p - 48 from zup_s F i _) ?_
      refine r_imul (pc := 42) C dX9_readsNumber_42 ?_
      refine r_aload_n (pc := 43) C 0 dX9_readsNumber_43 rfl rfl ?_
      refine r_callV (pc := 44) (is := [0, 1, 2, 3, 4, 5, 6, 7, 8]) C YX9_sign dX9_readsNumber_44 tw_801 (c_X9_sign l G _ _ _ _ _ (by first | assumption | omega | exact zand_rng _ _ | exact zor_rng _ _ | exact zxor_rng _ _ | exact BT.r (IT.b (by assumption)) _ _) (by first | assumption | omega | exact zand_rng _ _ | exact zor_rng _ _ | exact zxor_rng _ _ | exact BT.r (IT.b (by assumption)) _ _) (by first | assumption | omega | exact zand_rng _ _ | exact zor_rng _ _ | exact zxor_rng _ _ | exact BT.r (IT.b (by assumption)) _ _)) 0 0 rfl rfl (ci := 9) rfl rfl rfl (by decide) rfl rfl (Nat.le_of_ble_eq_true rfl) ⟨rfl, rfl, by decide, by decide⟩ (jst_i (R_uall ..) ?_)
      refine r_iadd (pc := 47) C dX9_readsNumber_47 ?_
      refine r_bipush (pc := 48) C dX9_readsNumber_48 (by decide) ?_
      refine r_isub (pc := 50) C dX9_readsNumber_50 ?_
      refine r_iastore (pc := 51) C 7 0 dX9_readsNumber_51 rfl rfl (by decide) (by omega) rfl (rd_a7 (F' := zup F i (10 * (sg (R 6) (R 0 1) p - 48) + (sg (R 6) (R 0 1) (p + 1) - 48))) (by rw [zup_zup, show 10 * (sg (R 6) (R 0 1) p - 48) + sg (R 6) (R 0 1) (p + 1) - 48 = 10 * (sg (R 6) (R 0 1) p - 48) + (sg (R 6) (R 0 1) (p + 1) - 48) by omega])) ?_
      refine r_aload_n (pc := 52) C 0 dX9_readsNumber_52 rfl rfl ?_
      refine r_dup (pc := 53) C dX9_readsNumber_53 rfl ?_
      refine r_get (pc := 54) C 0 0 9 dX9_readsNumber_54 in_X9 rfl rfl (ci := 9) rfl (by decide) tw_750 rfl rfl ?_
      refine r_iconst (pc := 57) C dX9_readsNumber_57 ?_
      refine r_iadd (pc := 58) C dX9_readsNumber_58 ?_
      refine r_put (pc := 59) C 0 0 9 dX9_readsNumber_59 in_X9 tyX9_ok nmX9 rfl rfl (ci := 9) rfl (by decide) tw_750 rfl rfl (tyX9_ok 9 (by decide)) rfl rfl (Nat.le_of_ble_eq_true rfl) rfl (rd_p9 (q := p + 1 + 1) rfl) ?_
      refine r_iinc (pc := 62) C dX9_readsNumber_62 rfl ?_
      refine r_goto (pc := 65) (tgt := 9) C dX9_readsNumber_65 (by decide) ?_
      refine r_iload_n (pc := 9) C 3 dX9_readsNumber_9 rfl rfl ?_
      refine r_iload_n (pc := 10) C 2 dX9_readsNumber_10 rfl rfl ?_
      refine r_icmp_ge (pc := 11) (tgt := 68) C dX9_readsNumber_11 (by decide) (by omega) (by omega) (fun c11 => ?_) (fun c11 => absurd c11 (by omega))
      refine r_iload_n (pc := 68) C 3 dX9_readsNumber_68 rfl rfl ?_
      refine r_if_le (pc := 69) (tgt := 76) C dX9_readsNumber_69 (by decide) (by omega) (fun c69 => absurd c69 (by omega)) (fun c69 => ?_)
      refine r_iconst (pc := 72) C dX9_readsNumber_72 ?_
      refine r_goto (pc := 73) (tgt := 77) C dX9_readsNumber_73 (by decide) ?_
      exact r_zret (pc := 77) C hQ dX9_readsNumber_77 (by decide) rfl (jst_ri (by rw [zb_t hq0]) (by unfold sP2 sN2; first | rw [if_pos hq0, if_pos hq0, if_pos hq1, if_pos hq1] | (rw [if_pos hq0, if_pos hq0, if_neg c26, if_neg c26]; rfl) | (rw [if_neg c26, if_neg c26]; rfl)))

set_option maxRecDepth 100000 in
set_option maxHeartbeats 4000000 in
theorem c_X9_kindOf (l : Launch) (G : GT) (c : Int) (gc : -2147483648 ≤ c ∧ c < 2147483648) : Cn l yX9_kindOf cX9_kindOf 1 (Option.some .int) ({ frames := 0, cells := 0, slots := 0, locals := 0 }) G [.int (iI c)] (w0) (jst (some (.int (iI (sKind c)))) (w0)) := by
  refine Cn_in RX9 [some (.int (iI c))] (by decide +kernel) rfl rfl rfl (Nat.le_of_ble_eq_true rfl) (fun K C hQ => ?_)
  refine r_iload_n (pc := 0) C 0 dX9_kindOf_0 rfl rfl ?_
  by_cases s1_98 : c = 98
  · refine r_look (pc := 1) (tgt := 68) (off := 67) C dX9_kindOf_1 gc (by decide) (by (try show Op.lookupswitch.offset _ _ _ = _); rw [s1_98]; (try exact z_osy)) (by decide) ?_
    refine r_iconst (pc := 68) C dX9_kindOf_68 ?_
    exact r_iret (pc := 69) C hQ dX9_kindOf_69 rfl (jst_ri (by unfold sKind; (repeat (first | rw [if_pos (by omega)] | rw [if_neg (by omega)]))) rfl)
  by_cases s1_100 : c = 100
  · refine r_look (pc := 1) (tgt := 60) (off := 59) C dX9_kindOf_1 gc (by decide) (by (try show Op.lookupswitch.offset _ _ _ = _); rw [z_osw s1_98]; rw [s1_100]; (try exact z_osy)) (by decide) ?_
    refine r_iconst (pc := 60) C dX9_kindOf_60 ?_
    exact r_iret (pc := 61) C hQ dX9_kindOf_61 rfl (jst_ri (by unfold sKind; (repeat (first | rw [if_pos (by omega)] | rw [if_neg (by omega)]))) rfl)
  by_cases s1_111 : c = 111
  · refine r_look (pc := 1) (tgt := 62) (off := 61) C dX9_kindOf_1 gc (by decide) (by (try show Op.lookupswitch.offset _ _ _ = _); rw [z_osw s1_98]; rw [z_osw s1_100]; rw [s1_111]; (try exact z_osy)) (by decide) ?_
    refine r_iconst (pc := 62) C dX9_kindOf_62 ?_
    exact r_iret (pc := 63) C hQ dX9_kindOf_63 rfl (jst_ri (by unfold sKind; (repeat (first | rw [if_pos (by omega)] | rw [if_neg (by omega)]))) rfl)
  by_cases s1_115 : c = 115
  · refine r_look (pc := 1) (tgt := 66) (off := 65) C dX9_kindOf_1 gc (by decide) (by (try show Op.lookupswitch.offset _ _ _ = _); rw [z_osw s1_98]; rw [z_osw s1_100]; rw [z_osw s1_111]; rw [s1_115]; (try exact z_osy)) (by decide) ?_
    refine r_iconst (pc := 66) C dX9_kindOf_66 ?_
    exact r_iret (pc := 67) C hQ dX9_kindOf_67 rfl (jst_ri (by unfold sKind; (repeat (first | rw [if_pos (by omega)] | rw [if_neg (by omega)]))) rfl)
  by_cases s1_116 : c = 116
  · refine r_look (pc := 1) (tgt := 70) (off := 69) C dX9_kindOf_1 gc (by decide) (by (try show Op.lookupswitch.offset _ _ _ = _); rw [z_osw s1_98]; rw [z_osw s1_100]; rw [z_osw s1_111]; rw [z_osw s1_115]; rw [s1_116]; (try exact z_osy)) (by decide) ?_
    refine r_iconst (pc := 70) C dX9_kindOf_70 ?_
    exact r_iret (pc := 71) C hQ dX9_kindOf_71 rfl (jst_ri (by unfold sKind; (repeat (first | rw [if_pos (by omega)] | rw [if_neg (by omega)]))) rfl)
  by_cases s1_121 : c = 121
  · refine r_look (pc := 1) (tgt := 64) (off := 63) C dX9_kindOf_1 gc (by decide) (by (try show Op.lookupswitch.offset _ _ _ = _); rw [z_osw s1_98]; rw [z_osw s1_100]; rw [z_osw s1_111]; rw [z_osw s1_115]; rw [z_osw s1_116]; rw [s1_121]; (try exact z_osy)) (by decide) ?_
    refine r_iconst (pc := 64) C dX9_kindOf_64 ?_
    exact r_iret (pc := 65) C hQ dX9_kindOf_65 rfl (jst_ri (by unfold sKind; (repeat (first | rw [if_pos (by omega)] | rw [if_neg (by omega)]))) rfl)
  refine r_look (pc := 1) (tgt := 72) (off := 71) C dX9_kindOf_1 gc (by decide) (by (try show Op.lookupswitch.offset _ _ _ = _); rw [z_osw s1_98]; rw [z_osw s1_100]; rw [z_osw s1_111]; rw [z_osw s1_115]; rw [z_osw s1_116]; rw [z_osw s1_121]; (try rfl)) (by decide) ?_
  refine r_bipush (pc := 72) C dX9_kindOf_72 (by decide) ?_
  exact r_iret (pc := 74) C hQ dX9_kindOf_74 rfl (jst_ri (by unfold sKind; (repeat (first | rw [if_pos (by omega)] | rw [if_neg (by omega)]))) rfl)

set_option maxRecDepth 100000 in
set_option maxHeartbeats 4000000 in
theorem c_X9_readsKind (l : Launch) (G : GT) (b : Nat → Nat) (R T : Tn) (p : Int) (F : Int → Int) (hn1 : 0 ≤ R 0 1 ∧ R 0 1 ≤ 64) (h6 : ∀ j, 0 ≤ R 6 j ∧ R 6 j ≤ 255) (hp : 0 ≤ p ∧ p ≤ 64) : Cn l yX9_readsKind cX9_readsKind 1 (Option.some .boolean) ({ frames := 1, cells := 0, slots := 0, locals := 20 }) G [.ref (b 0)] (wR G b (rd R p F) T) (jst (some (.int (iI (zb (0 ≤ sKind (sg (R 6) (R 0 1) p)))))) (wR G b (rd R (if 0 ≤ sKind (sg (R 6) (R 0 1) p) then p + 1 else p) (zup F 0 (sKind (sg (R 6) (R 0 1) p)))) T)) := by
  refine Cn_in RX9 [some (.ref (b 0))] (by decide +kernel) rfl rfl rfl (Nat.le_of_ble_eq_true rfl) (fun K C hQ => ?_)
  have e2 : rd R p F 0 2 = p := rfl
  have e1 : rd R p F 0 1 = R 0 1 := rfl
  have hsr := sg_r h6 (R 0 1) p
  have hkr := sKind_r (sg (R 6) (R 0 1) p)
  refine r_aload_n (pc := 0) C 0 dX9_readsKind_0 rfl rfl ?_
  refine r_get (pc := 1) C 0 0 7 dX9_readsKind_1 in_X9 rfl rfl (ci := 9) rfl (by decide) tw_748 rfl rfl ?_
  refine r_iconst (pc := 4) C dX9_readsKind_4 ?_
  refine r_aload_n (pc := 5) C 0 dX9_readsKind_5 rfl rfl ?_
  refine r_callV (pc := 6) (is := [0, 1, 2, 3, 4, 5, 6, 7, 8]) C YX9_sign dX9_readsKind_6 tw_801 (c_X9_sign l G _ _ _ _ _ (by first | assumption | omega | exact zand_rng _ _ | exact zor_rng _ _ | exact zxor_rng _ _ | exact BT.r (IT.b (by assumption)) _ _) (by first | assumption | omega | exact zand_rng _ _ | exact zor_rng _ _ | exact zxor_rng _ _ | exact BT.r (IT.b (by assumption)) _ _) (by first | assumption | omega | exact zand_rng _ _ | exact zor_rng _ _ | exact zxor_rng _ _ | exact BT.r (IT.b (by assumption)) _ _)) 0 0 rfl rfl (ci := 9) rfl rfl rfl (by decide) rfl rfl (Nat.le_of_ble_eq_true rfl) ⟨rfl, rfl, by decide, by decide⟩ (jst_i (R_uall ..) ?_)
  refine r_callS (pc := 9) (is := []) C YX9_kindOf dX9_readsKind_9 tw_816 (c_X9_kindOf l G _ (by first | assumption | omega | exact zand_rng _ _ | exact zor_rng _ _ | exact zxor_rng _ _ | exact BT.r (IT.b (by assumption)) _ _)) rfl (by decide) rfl rfl (Nat.le_of_ble_eq_true rfl) ⟨rfl, rfl, by decide, by decide⟩ (jst_i rfl ?_)
  refine r_iastore (pc := 12) C 7 0 dX9_readsKind_12 rfl rfl (by decide) (by omega) rfl (rd_a7 (F' := zup F 0 (sKind (sg (R 6) (R 0 1) p))) rfl) ?_
  refine r_aload_n (pc := 13) C 0 dX9_readsKind_13 rfl rfl ?_
  refine r_get (pc := 14) C 0 0 7 dX9_readsKind_14 in_X9 rfl rfl (ci := 9) rfl (by decide) tw_748 rfl rfl ?_
  refine r_iconst (pc := 17) C dX9_readsKind_17 ?_
  refine r_ialoadE (pc := 18) C 7 0 dX9_readsKind_18 rfl rfl (by decide) (by omega) (show zup F 0 (sKind (sg (R 6) (R 0 1) p)) 0 = sKind (sg (R 6) (R 0 1) p) from zup_s F 0 _) ?_
  refine r_if_ge (pc := 19) (tgt := 24) C dX9_readsKind_19 (by decide) (by first | omega | exact zand_rng _ _ | exact zor_rng _ _ | exact zxor_rng _ _ | exact BT.r (IT.b (by assumption)) _ _) (fun c19 => ?_) (fun c19 => ?_)
  · refine r_aload_n (pc := 24) C 0 dX9_readsKind_24 rfl rfl ?_
    refine r_dup (pc := 25) C dX9_readsKind_25 rfl ?_
    refine r_get (pc := 26) C 0 0 9 dX9_readsKind_26 in_X9 rfl rfl (ci := 9) rfl (by decide) tw_750 rfl rfl ?_
    refine r_iconst (pc := 29) C dX9_readsKind_29 ?_
    refine r_iadd (pc := 30) C dX9_readsKind_30 ?_
    refine r_put (pc := 31) C 0 0 9 dX9_readsKind_31 in_X9 tyX9_ok nmX9 rfl rfl (ci := 9) rfl (by decide) tw_750 rfl rfl (tyX9_ok 9 (by decide)) rfl rfl (Nat.le_of_ble_eq_true rfl) rfl (rd_p9 (q := p + 1) rfl) ?_
    refine r_iconst (pc := 34) C dX9_readsKind_34 ?_
    exact r_zret (pc := 35) C hQ dX9_readsKind_35 (by decide) rfl (jst_ri (by exact (zb_t (by omega)).symm) (by first | rw [if_pos (by omega)] | rw [if_neg (by omega)]))
  · refine r_iconst (pc := 22) C dX9_readsKind_22 ?_
    exact r_zret (pc := 23) C hQ dX9_readsKind_23 (by decide) rfl (jst_ri (by exact (zb_f (by omega)).symm) (by first | rw [if_pos (by omega)] | rw [if_neg (by omega)]))

set_option maxRecDepth 100000 in
set_option maxHeartbeats 4000000 in
theorem c_X9_readsStatement (l : Launch) (G : GT) (b : Nat → Nat) (R T : Tn) (p : Int) (F : Int → Int) (hn1 : 0 ≤ R 0 1 ∧ R 0 1 ≤ 64) (h6 : ∀ j, 0 ≤ R 6 j ∧ R 6 j ≤ 255) (hp : 0 ≤ p ∧ p ≤ 64) : Cn l yX9_readsStatement cX9_readsStatement 3 (Option.some .boolean) ({ frames := 2, cells := 0, slots := 0, locals := 44 }) G [.ref (b 0)] (wR G b (rd R p F) T) (aRS G b R T p) := by
  refine Cn_in RX9 [some (.ref (b 0)), none, none] (by decide +kernel) rfl rfl rfl (Nat.le_of_ble_eq_true rfl) (fun K C hQ => ?_)
  have e2 : rd R p F 0 2 = p := rfl
  have e1 : rd R p F 0 1 = R 0 1 := rfl
  have hsr := sg_r h6 (R 0 1) p
  refine r_aload_n (pc := 0) C 0 dX9_readsStatement_0 rfl rfl ?_
  refine r_callV (pc := 1) (is := [0, 1, 2, 3, 4, 5, 6, 7, 8]) C YX9_sign dX9_readsStatement_1 tw_801 (c_X9_sign l G _ _ _ _ _ (by first | assumption | omega | exact zand_rng _ _ | exact zor_rng _ _ | exact zxor_rng _ _ | exact BT.r (IT.b (by assumption)) _ _) (by first | assumption | omega | exact zand_rng _ _ | exact zor_rng _ _ | exact zxor_rng _ _ | exact BT.r (IT.b (by assumption)) _ _) (by first | assumption | omega | exact zand_rng _ _ | exact zor_rng _ _ | exact zxor_rng _ _ | exact BT.r (IT.b (by assumption)) _ _)) 0 0 rfl rfl (ci := 9) rfl rfl rfl (by decide) rfl rfl (Nat.le_of_ble_eq_true rfl) ⟨rfl, rfl, by decide, by decide⟩ (jst_i (R_uall ..) ?_)
  refine r_istore_n (pc := 4) C 1 dX9_readsStatement_4 rfl (Nat.le_of_ble_eq_true rfl) ?_
  refine r_iconst (pc := 5) C dX9_readsStatement_5 ?_
  refine r_istore_n (pc := 6) C 2 dX9_readsStatement_6 rfl (Nat.le_of_ble_eq_true rfl) ?_
  refine r_aload_n (pc := 7) C 0 dX9_readsStatement_7 rfl rfl ?_
  refine r_dup (pc := 8) C dX9_readsStatement_8 rfl ?_
  refine r_get (pc := 9) C 0 0 9 dX9_readsStatement_9 in_X9 rfl rfl (ci := 9) rfl (by decide) tw_750 rfl rfl ?_
  refine r_iconst (pc := 12) C dX9_readsStatement_12 ?_
  refine r_iadd (pc := 13) C dX9_readsStatement_13 ?_
  refine r_put (pc := 14) C 0 0 9 dX9_readsStatement_14 in_X9 tyX9_ok nmX9 rfl rfl (ci := 9) rfl (by decide) tw_750 rfl rfl (tyX9_ok 9 (by decide)) rfl rfl (Nat.le_of_ble_eq_true rfl) rfl (rd_p9 (q := p + 1) rfl) ?_
  refine r_iload_n (pc := 17) C 1 dX9_readsStatement_17 rfl rfl ?_
  by_cases s18_100 : sg (R 6) (R 0 1) p = 100
  · refine r_look (pc := 18) (tgt := 87) (off := 69) C dX9_readsStatement_18 (by first | omega | exact zand_rng _ _ | exact zor_rng _ _ | exact zxor_rng _ _ | exact BT.r (IT.b (by assumption)) _ _) (by decide) (by (try show Op.lookupswitch.offset _ _ _ = _); rw [s18_100]; (try exact z_osy)) (by decide) ?_
    have hx0 := sg_p (L := R 6) (n := R 0 1) (p := p) (by omega)
    refine r_aload_n (pc := 87) C 0 dX9_readsStatement_87 rfl rfl ?_
    refine r_callV (pc := 88) (is := [0, 1, 2, 3, 4, 5, 6, 7, 8]) C YX9_readsKind dX9_readsStatement_88 tw_812 (c_X9_readsKind l G _ _ _ _ _ (by first | assumption | omega | exact zand_rng _ _ | exact zor_rng _ _ | exact zxor_rng _ _ | exact BT.r (IT.b (by assumption)) _ _) (by first | assumption | omega | exact zand_rng _ _ | exact zor_rng _ _ | exact zxor_rng _ _ | exact BT.r (IT.b (by assumption)) _ _) (by first | assumption | omega | exact zand_rng _ _ | exact zor_rng _ _ | exact zxor_rng _ _ | exact BT.r (IT.b (by assumption)) _ _)) 0 0 rfl rfl (ci := 9) rfl rfl rfl (by decide) rfl rfl (Nat.le_of_ble_eq_true rfl) ⟨rfl, rfl, by decide, by decide⟩ (jst_i (R_uall ..) ?_)
    refine r_ifb_eq (pc := 91) (tgt := 116) C dX9_readsStatement_91 (by decide) (fun c91 => ?_) (fun c91 => ?_)
    · (try rw [if_neg c109, if_neg c109])
      (try rw [if_neg c100, if_neg c100])
      (try rw [if_neg c91])
      refine r_iconst (pc := 116) C dX9_readsStatement_116 ?_
      refine r_istore_n (pc := 117) C 2 dX9_readsStatement_117 rfl (Nat.le_of_ble_eq_true rfl) ?_
      refine r_goto (pc := 118) (tgt := 153) C dX9_readsStatement_118 (by decide) ?_
      refine r_iload_n (pc := 153) C 2 dX9_readsStatement_153 rfl rfl ?_
      refine r_if_eq (pc := 154) (tgt := 170) C dX9_readsStatement_154 (by decide) (by first | omega | exact zand_rng _ _ | exact zor_rng _ _ | exact zxor_rng _ _ | exact BT.r (IT.b (by assumption)) _ _) (fun c154 => ?_) (fun c154 => absurd c154 (by omega))
      (try rw [if_neg c163])
      (try rw [if_neg c154, if_neg c154])
      refine r_iconst (pc := 170) C dX9_readsStatement_170 ?_
      exact r_zret (pc := 171) C hQ dX9_readsStatement_171 (by decide) rfl (by first | exact aRS_n (sE_hn s18_104 c154 c163) (by have := sP2_r (L := R 6) (n := R 0 1) (p := p + 1) (by omega) (by omega) (by omega); omega) | exact aRS_n (sE_hd s18_104 c154) (by have := sP2_r (L := R 6) (n := R 0 1) (p := p + 1) (by omega) (by omega) (by omega); omega) | exact aRS_n (by unfold sE sED sEK sES; (repeat (first | rw [if_pos (by first | assumption | omega)] | rw [if_neg (by first | assumption | omega)])); (try omega)) (by omega))
    · rw [if_pos c91]
      have hc91 := sg_p (L := R 6) (n := R 0 1) (p := p + 1) (by have hk9 := sKind_m c91; omega)
      refine r_aload_n (pc := 94) C 0 dX9_readsStatement_94 rfl rfl ?_
      refine r_iconst (pc := 95) C dX9_readsStatement_95 ?_
      refine r_iconst (pc := 96) C dX9_readsStatement_96 ?_
      refine r_callV (pc := 97) (is := [0, 1, 2, 3, 4, 5, 6, 7, 8]) C YX9_readsNumber dX9_readsStatement_97 tw_805 (c_X9_readsNumber1 l G _ _ _ _ _ _ (by first | assumption | omega | exact zand_rng _ _ | exact zor_rng _ _ | exact zxor_rng _ _ | exact BT.r (IT.b (by assumption)) _ _) (by first | assumption | omega | exact zand_rng _ _ | exact zor_rng _ _ | exact zxor_rng _ _ | exact BT.r (IT.b (by assumption)) _ _) (by first | assumption | omega | exact zand_rng _ _ | exact zor_rng _ _ | exact zxor_rng _ _ | exact BT.r (IT.b (by assumption)) _ _) (by first | assumption | omega | exact zand_rng _ _ | exact zor_rng _ _ | exact zxor_rng _ _ | exact BT.r (IT.b (by assumption)) _ _)) 0 0 rfl rfl (ci := 9) rfl rfl rfl (by decide) rfl rfl (Nat.le_of_ble_eq_true rfl) ⟨rfl, rfl, by decide, by decide⟩ (jst_i (R_uall ..) ?_)
      refine r_ifb_eq (pc := 100) (tgt := 116) C dX9_readsStatement_100 (by decide) (fun c100 => ?_) (fun c100 => ?_)
      · (try rw [if_neg c109, if_neg c109])
        (try rw [if_neg c100, if_neg c100])
        (try rw [if_neg c91])
        refine r_iconst (pc := 116) C dX9_readsStatement_116 ?_
        refine r_istore_n (pc := 117) C 2 dX9_readsStatement_117 rfl (Nat.le_of_ble_eq_true rfl) ?_
        refine r_goto (pc := 118) (tgt := 153) C dX9_readsStatement_118 (by decide) ?_
        refine r_iload_n (pc := 153) C 2 dX9_readsStatement_153 rfl rfl ?_
        refine r_if_eq (pc := 154) (tgt := 170) C dX9_readsStatement_154 (by decide) (by first | omega | exact zand_rng _ _ | exact zor_rng _ _ | exact zxor_rng _ _ | exact BT.r (IT.b (by assumption)) _ _) (fun c154 => ?_) (fun c154 => absurd c154 (by omega))
        (try rw [if_neg c163])
        (try rw [if_neg c154, if_neg c154])
        refine r_iconst (pc := 170) C dX9_readsStatement_170 ?_
        exact r_zret (pc := 171) C hQ dX9_readsStatement_171 (by decide) rfl (by first | exact aRS_n (sE_hn s18_104 c154 c163) (by have := sP2_r (L := R 6) (n := R 0 1) (p := p + 1) (by omega) (by omega) (by omega); omega) | exact aRS_n (sE_hd s18_104 c154) (by have := sP2_r (L := R 6) (n := R 0 1) (p := p + 1) (by omega) (by omega) (by omega); omega) | exact aRS_n (by unfold sE sED sEK sES; (repeat (first | rw [if_pos (by first | assumption | omega)] | rw [if_neg (by first | assumption | omega)])); (try omega)) (by omega))
      · (try rw [if_pos c100, if_pos c100])
        have hc100 := sg_p (L := R 6) (n := R 0 1) (p := p + 1 + 1) (by omega)
        refine r_aload_n (pc := 103) C 0 dX9_readsStatement_103 rfl rfl ?_
        refine r_iconst (pc := 104) C dX9_readsStatement_104 ?_
        refine r_iconst (pc := 105) C dX9_readsStatement_105 ?_
        refine r_callV (pc := 106) (is := [0, 1, 2, 3, 4, 5, 6, 7, 8]) C YX9_readsNumber dX9_readsStatement_106 tw_805 (c_X9_readsNumber1 l G _ _ _ _ _ _ (by first | assumption | omega | exact zand_rng _ _ | exact zor_rng _ _ | exact zxor_rng _ _ | exact BT.r (IT.b (by assumption)) _ _) (by first | assumption | omega | exact zand_rng _ _ | exact zor_rng _ _ | exact zxor_rng _ _ | exact BT.r (IT.b (by assumption)) _ _) (by first | assumption | omega | exact zand_rng _ _ | exact zor_rng _ _ | exact zxor_rng _ _ | exact BT.r (IT.b (by assumption)) _ _) (by first | assumption | omega | exact zand_rng _ _ | exact zor_rng _ _ | exact zxor_rng _ _ | exact BT.r (IT.b (by assumption)) _ _)) 0 0 rfl rfl (ci := 9) rfl rfl rfl (by decide) rfl rfl (Nat.le_of_ble_eq_true rfl) ⟨rfl, rfl, by decide, by decide⟩ (jst_i (R_uall ..) ?_)
        refine r_ifb_eq (pc := 109) (tgt := 116) C dX9_readsStatement_109 (by decide) (fun c109 => ?_) (fun c109 => ?_)
        · (try rw [if_neg c109, if_neg c109])
          (try rw [if_neg c100, if_neg c100])
          (try rw [if_neg c91])
          refine r_iconst (pc := 116) C dX9_readsStatement_116 ?_
          refine r_istore_n (pc := 117) C 2 dX9_readsStatement_117 rfl (Nat.le_of_ble_eq_true rfl) ?_
          refine r_goto (pc := 118) (tgt := 153) C dX9_readsStatement_118 (by decide) ?_
          refine r_iload_n (pc := 153) C 2 dX9_readsStatement_153 rfl rfl ?_
          refine r_if_eq (pc := 154) (tgt := 170) C dX9_readsStatement_154 (by decide) (by first | omega | exact zand_rng _ _ | exact zor_rng _ _ | exact zxor_rng _ _ | exact BT.r (IT.b (by assumption)) _ _) (fun c154 => ?_) (fun c154 => absurd c154 (by omega))
          (try rw [if_neg c163])
          (try rw [if_neg c154, if_neg c154])
          refine r_iconst (pc := 170) C dX9_readsStatement_170 ?_
          exact r_zret (pc := 171) C hQ dX9_readsStatement_171 (by decide) rfl (by first | exact aRS_n (sE_hn s18_104 c154 c163) (by have := sP2_r (L := R 6) (n := R 0 1) (p := p + 1) (by omega) (by omega) (by omega); omega) | exact aRS_n (sE_hd s18_104 c154) (by have := sP2_r (L := R 6) (n := R 0 1) (p := p + 1) (by omega) (by omega) (by omega); omega) | exact aRS_n (by unfold sE sED sEK sES; (repeat (first | rw [if_pos (by first | assumption | omega)] | rw [if_neg (by first | assumption | omega)])); (try omega)) (by omega))
        · (try rw [if_pos c109, if_pos c109])
          have hc109 := sg_p (L := R 6) (n := R 0 1) (p := p + 1 + 1 + 1) (by omega)
          refine r_iconst (pc := 112) C dX9_readsStatement_112 ?_
          refine r_goto (pc := 113) (tgt := 117) C dX9_readsStatement_113 (by decide) ?_
          refine r_istore_n (pc := 117) C 2 dX9_readsStatement_117 rfl (Nat.le_of_ble_eq_true rfl) ?_
          refine r_goto (pc := 118) (tgt := 153) C dX9_readsStatement_118 (by decide) ?_
          refine r_iload_n (pc := 153) C 2 dX9_readsStatement_153 rfl rfl ?_
          refine r_if_eq (pc := 154) (tgt := 170) C dX9_readsStatement_154 (by decide) (by first | omega | exact zand_rng _ _ | exact zor_rng _ _ | exact zxor_rng _ _ | exact BT.r (IT.b (by assumption)) _ _) (fun c154 => absurd c154 (by omega)) (fun c154 => ?_)
          (try rw [if_pos c154, if_pos c154])
          (try have hc154 := sg_p (L := R 6) (n := R 0 1) (p := p + 1) (by omega))
          refine r_aload_n (pc := 157) C 0 dX9_readsStatement_157 rfl rfl ?_
          refine r_bipush (pc := 158) C dX9_readsStatement_158 (by decide) ?_
          refine r_callV (pc := 160) (is := [0, 1, 2, 3, 4, 5, 6, 7, 8]) C YX9_takes dX9_readsStatement_160 tw_819 (c_X9_takes l G _ _ _ _ _ _ (by first | assumption | omega | exact zand_rng _ _ | exact zor_rng _ _ | exact zxor_rng _ _ | exact BT.r (IT.b (by assumption)) _ _) (by first | assumption | omega | exact zand_rng _ _ | exact zor_rng _ _ | exact zxor_rng _ _ | exact BT.r (IT.b (by assumption)) _ _) (by first | assumption | omega | exact zand_rng _ _ | exact zor_rng _ _ | exact zxor_rng _ _ | exact BT.r (IT.b (by assumption)) _ _) (by first | assumption | omega | exact zand_rng _ _ | exact zor_rng _ _ | exact zxor_rng _ _ | exact BT.r (IT.b (by assumption)) _ _)) 0 0 rfl rfl (ci := 9) rfl rfl rfl (by decide) rfl rfl (Nat.le_of_ble_eq_true rfl) ⟨rfl, rfl, by decide, by decide⟩ (jst_i (R_uall ..) ?_)
          refine r_ifb_eq (pc := 163) (tgt := 170) C dX9_readsStatement_163 (by decide) (fun c163 => ?_) (fun c163 => ?_)
          · (try rw [if_neg c163])
            (try rw [if_neg c154, if_neg c154])
            refine r_iconst (pc := 170) C dX9_readsStatement_170 ?_
            exact r_zret (pc := 171) C hQ dX9_readsStatement_171 (by decide) rfl (by first | exact aRS_n (sE_hn s18_104 c154 c163) (by have := sP2_r (L := R 6) (n := R 0 1) (p := p + 1) (by omega) (by omega) (by omega); omega) | exact aRS_n (sE_hd s18_104 c154) (by have := sP2_r (L := R 6) (n := R 0 1) (p := p + 1) (by omega) (by omega) (by omega); omega) | exact aRS_n (by unfold sE sED sEK sES; (repeat (first | rw [if_pos (by first | assumption | omega)] | rw [if_neg (by first | assumption | omega)])); (try omega)) (by omega))
          · rw [if_pos c163]
            refine r_iconst (pc := 166) C dX9_readsStatement_166 ?_
            refine r_goto (pc := 167) (tgt := 171) C dX9_readsStatement_167 (by decide) ?_
            exact r_zret (pc := 171) C hQ dX9_readsStatement_171 (by decide) rfl (by first | exact aRS_y (sE_hy s18_104 c154 c163) (by have := sP2_r (L := R 6) (n := R 0 1) (p := p + 1) (by omega) (by omega) (by omega); omega) ⟨fun q => by omega, fun q => by omega, fun q => by omega, fun _ => rfl⟩ | exact aRS_y (by unfold sE sED sEK sES; (repeat (first | rw [if_pos (by first | assumption | omega)] | rw [if_neg (by first | assumption | omega)])); (try omega)) (by omega) ⟨fun q => by first | omega | exact ⟨rfl, rfl⟩, fun q => by first | omega | exact ⟨rfl, rfl, rfl⟩, fun q => by first | omega | rfl, fun q => by first | omega | rfl⟩)
  by_cases s18_104 : sg (R 6) (R 0 1) p = 104
  · refine r_look (pc := 18) (tgt := 131) (off := 113) C dX9_readsStatement_18 (by first | omega | exact zand_rng _ _ | exact zor_rng _ _ | exact zxor_rng _ _ | exact BT.r (IT.b (by assumption)) _ _) (by decide) (by (try show Op.lookupswitch.offset _ _ _ = _); rw [z_osw s18_100]; rw [s18_104]; (try exact z_osy)) (by decide) ?_
    have hx0 := sg_p (L := R 6) (n := R 0 1) (p := p) (by omega)
    have hP2 := sP2_r (L := R 6) (n := R 0 1) (p := p + 1) (by omega) (by omega) (by omega)
    refine r_aload_n (pc := 131) C 0 dX9_readsStatement_131 rfl rfl ?_
    refine r_iconst (pc := 132) C dX9_readsStatement_132 ?_
    refine r_iconst (pc := 133) C dX9_readsStatement_133 ?_
    refine r_callV (pc := 134) (is := [0, 1, 2, 3, 4, 5, 6, 7, 8]) C YX9_readsNumber dX9_readsStatement_134 tw_805 (c_X9_readsNumber2 l G _ _ _ _ _ _ (by first | assumption | omega | exact zand_rng _ _ | exact zor_rng _ _ | exact zxor_rng _ _ | exact BT.r (IT.b (by assumption)) _ _) (by first | assumption | omega | exact zand_rng _ _ | exact zor_rng _ _ | exact zxor_rng _ _ | exact BT.r (IT.b (by assumption)) _ _) (by first | assumption | omega | exact zand_rng _ _ | exact zor_rng _ _ | exact zxor_rng _ _ | exact BT.r (IT.b (by assumption)) _ _) (by first | assumption | omega | exact zand_rng _ _ | exact zor_rng _ _ | exact zxor_rng _ _ | exact BT.r (IT.b (by assumption)) _ _)) 0 0 rfl rfl (ci := 9) rfl rfl rfl (by decide) rfl rfl (Nat.le_of_ble_eq_true rfl) ⟨rfl, rfl, by decide, by decide⟩ (jst_i (R_uall ..) ?_)
    refine r_istore_n (pc := 137) C 2 dX9_readsStatement_137 rfl (Nat.le_of_ble_eq_true rfl) ?_
    refine r_goto (pc := 138) (tgt := 153) C dX9_readsStatement_138 (by decide) ?_
    refine r_iload_n (pc := 153) C 2 dX9_readsStatement_153 rfl rfl ?_
    refine r_ifb_eq (pc := 154) (tgt := 170) C dX9_readsStatement_154 (by decide) (fun c154 => ?_) (fun c154 => ?_)
    · (try rw [if_neg c163])
      (try rw [if_neg c154, if_neg c154])
      refine r_iconst (pc := 170) C dX9_readsStatement_170 ?_
      exact r_zret (pc := 171) C hQ dX9_readsStatement_171 (by decide) rfl (by first | exact aRS_n (sE_hn s18_104 c154 c163) (by have := sP2_r (L := R 6) (n := R 0 1) (p := p + 1) (by omega) (by omega) (by omega); omega) | exact aRS_n (sE_hd s18_104 c154) (by have := sP2_r (L := R 6) (n := R 0 1) (p := p + 1) (by omega) (by omega) (by omega); omega) | exact aRS_n (by unfold sE sED sEK sES; (repeat (first | rw [if_pos (by first | assumption | omega)] | rw [if_neg (by first | assumption | omega)])); (try omega)) (by omega))
    · (try rw [if_pos c154, if_pos c154])
      (try have hc154 := sg_p (L := R 6) (n := R 0 1) (p := p + 1) (by omega))
      refine r_aload_n (pc := 157) C 0 dX9_readsStatement_157 rfl rfl ?_
      refine r_bipush (pc := 158) C dX9_readsStatement_158 (by decide) ?_
      refine r_callV (pc := 160) (is := [0, 1, 2, 3, 4, 5, 6, 7, 8]) C YX9_takes dX9_readsStatement_160 tw_819 (c_X9_takes l G _ _ _ _ _ _ (by first | assumption | omega | exact zand_rng _ _ | exact zor_rng _ _ | exact zxor_rng _ _ | exact BT.r (IT.b (by assumption)) _ _) (by first | assumption | omega | exact zand_rng _ _ | exact zor_rng _ _ | exact zxor_rng _ _ | exact BT.r (IT.b (by assumption)) _ _) (by first | assumption | omega | exact zand_rng _ _ | exact zor_rng _ _ | exact zxor_rng _ _ | exact BT.r (IT.b (by assumption)) _ _) (by first | assumption | omega | exact zand_rng _ _ | exact zor_rng _ _ | exact zxor_rng _ _ | exact BT.r (IT.b (by assumption)) _ _)) 0 0 rfl rfl (ci := 9) rfl rfl rfl (by decide) rfl rfl (Nat.le_of_ble_eq_true rfl) ⟨rfl, rfl, by decide, by decide⟩ (jst_i (R_uall ..) ?_)
      refine r_ifb_eq (pc := 163) (tgt := 170) C dX9_readsStatement_163 (by decide) (fun c163 => ?_) (fun c163 => ?_)
      · (try rw [if_neg c163])
        (try rw [if_neg c154, if_neg c154])
        refine r_iconst (pc := 170) C dX9_readsStatement_170 ?_
        exact r_zret (pc := 171) C hQ dX9_readsStatement_171 (by decide) rfl (by first | exact aRS_n (sE_hn s18_104 c154 c163) (by have := sP2_r (L := R 6) (n := R 0 1) (p := p + 1) (by omega) (by omega) (by omega); omega) | exact aRS_n (sE_hd s18_104 c154) (by have := sP2_r (L := R 6) (n := R 0 1) (p := p + 1) (by omega) (by omega) (by omega); omega) | exact aRS_n (by unfold sE sED sEK sES; (repeat (first | rw [if_pos (by first | assumption | omega)] | rw [if_neg (by first | assumption | omega)])); (try omega)) (by omega))
      · rw [if_pos c163]
        refine r_iconst (pc := 166) C dX9_readsStatement_166 ?_
        refine r_goto (pc := 167) (tgt := 171) C dX9_readsStatement_167 (by decide) ?_
        exact r_zret (pc := 171) C hQ dX9_readsStatement_171 (by decide) rfl (by first | exact aRS_y (sE_hy s18_104 c154 c163) (by have := sP2_r (L := R 6) (n := R 0 1) (p := p + 1) (by omega) (by omega) (by omega); omega) ⟨fun q => by omega, fun q => by omega, fun q => by omega, fun _ => rfl⟩ | exact aRS_y (by unfold sE sED sEK sES; (repeat (first | rw [if_pos (by first | assumption | omega)] | rw [if_neg (by first | assumption | omega)])); (try omega)) (by omega) ⟨fun q => by first | omega | exact ⟨rfl, rfl⟩, fun q => by first | omega | exact ⟨rfl, rfl, rfl⟩, fun q => by first | omega | rfl, fun q => by first | omega | rfl⟩)
  by_cases s18_108 : sg (R 6) (R 0 1) p = 108
  · refine r_look (pc := 18) (tgt := 60) (off := 42) C dX9_readsStatement_18 (by first | omega | exact zand_rng _ _ | exact zor_rng _ _ | exact zxor_rng _ _ | exact BT.r (IT.b (by assumption)) _ _) (by decide) (by (try show Op.lookupswitch.offset _ _ _ = _); rw [z_osw s18_100]; rw [z_osw s18_104]; rw [s18_108]; (try exact z_osy)) (by decide) ?_
    have hx0 := sg_p (L := R 6) (n := R 0 1) (p := p) (by omega)
    refine r_aload_n (pc := 60) C 0 dX9_readsStatement_60 rfl rfl ?_
    refine r_iconst (pc := 61) C dX9_readsStatement_61 ?_
    refine r_iconst (pc := 62) C dX9_readsStatement_62 ?_
    refine r_callV (pc := 63) (is := [0, 1, 2, 3, 4, 5, 6, 7, 8]) C YX9_readsNumber dX9_readsStatement_63 tw_805 (c_X9_readsNumber1 l G _ _ _ _ _ _ (by first | assumption | omega | exact zand_rng _ _ | exact zor_rng _ _ | exact zxor_rng _ _ | exact BT.r (IT.b (by assumption)) _ _) (by first | assumption | omega | exact zand_rng _ _ | exact zor_rng _ _ | exact zxor_rng _ _ | exact BT.r (IT.b (by assumption)) _ _) (by first | assumption | omega | exact zand_rng _ _ | exact zor_rng _ _ | exact zxor_rng _ _ | exact BT.r (IT.b (by assumption)) _ _) (by first | assumption | omega | exact zand_rng _ _ | exact zor_rng _ _ | exact zxor_rng _ _ | exact BT.r (IT.b (by assumption)) _ _)) 0 0 rfl rfl (ci := 9) rfl rfl rfl (by decide) rfl rfl (Nat.le_of_ble_eq_true rfl) ⟨rfl, rfl, by decide, by decide⟩ (jst_i (R_uall ..) ?_)
    refine r_ifb_eq (pc := 66) (tgt := 82) C dX9_readsStatement_66 (by decide) (fun c66 => ?_) (fun c66 => ?_)
    · (try rw [if_neg c75, if_neg c75])
      (try rw [if_neg c66, if_neg c66])
      refine r_iconst (pc := 82) C dX9_readsStatement_82 ?_
      refine r_istore_n (pc := 83) C 2 dX9_readsStatement_83 rfl (Nat.le_of_ble_eq_true rfl) ?_
      refine r_goto (pc := 84) (tgt := 153) C dX9_readsStatement_84 (by decide) ?_
      refine r_iload_n (pc := 153) C 2 dX9_readsStatement_153 rfl rfl ?_
      refine r_if_eq (pc := 154) (tgt := 170) C dX9_readsStatement_154 (by decide) (by first | omega | exact zand_rng _ _ | exact zor_rng _ _ | exact zxor_rng _ _ | exact BT.r (IT.b (by assumption)) _ _) (fun c154 => ?_) (fun c154 => absurd c154 (by omega))
      (try rw [if_neg c163])
      (try rw [if_neg c154, if_neg c154])
      refine r_iconst (pc := 170) C dX9_readsStatement_170 ?_
      exact r_zret (pc := 171) C hQ dX9_readsStatement_171 (by decide) rfl (by first | exact aRS_n (sE_hn s18_104 c154 c163) (by have := sP2_r (L := R 6) (n := R 0 1) (p := p + 1) (by omega) (by omega) (by omega); omega) | exact aRS_n (sE_hd s18_104 c154) (by have := sP2_r (L := R 6) (n := R 0 1) (p := p + 1) (by omega) (by omega) (by omega); omega) | exact aRS_n (by unfold sE sED sEK sES; (repeat (first | rw [if_pos (by first | assumption | omega)] | rw [if_neg (by first | assumption | omega)])); (try omega)) (by omega))
    · (try rw [if_pos c66, if_pos c66])
      have hc66 := sg_p (L := R 6) (n := R 0 1) (p := p + 1) (by omega)
      refine r_aload_n (pc := 69) C 0 dX9_readsStatement_69 rfl rfl ?_
      refine r_iconst (pc := 70) C dX9_readsStatement_70 ?_
      refine r_iconst (pc := 71) C dX9_readsStatement_71 ?_
      refine r_callV (pc := 72) (is := [0, 1, 2, 3, 4, 5, 6, 7, 8]) C YX9_readsNumber dX9_readsStatement_72 tw_805 (c_X9_readsNumber1 l G _ _ _ _ _ _ (by first | assumption | omega | exact zand_rng _ _ | exact zor_rng _ _ | exact zxor_rng _ _ | exact BT.r (IT.b (by assumption)) _ _) (by first | assumption | omega | exact zand_rng _ _ | exact zor_rng _ _ | exact zxor_rng _ _ | exact BT.r (IT.b (by assumption)) _ _) (by first | assumption | omega | exact zand_rng _ _ | exact zor_rng _ _ | exact zxor_rng _ _ | exact BT.r (IT.b (by assumption)) _ _) (by first | assumption | omega | exact zand_rng _ _ | exact zor_rng _ _ | exact zxor_rng _ _ | exact BT.r (IT.b (by assumption)) _ _)) 0 0 rfl rfl (ci := 9) rfl rfl rfl (by decide) rfl rfl (Nat.le_of_ble_eq_true rfl) ⟨rfl, rfl, by decide, by decide⟩ (jst_i (R_uall ..) ?_)
      refine r_ifb_eq (pc := 75) (tgt := 82) C dX9_readsStatement_75 (by decide) (fun c75 => ?_) (fun c75 => ?_)
      · (try rw [if_neg c75, if_neg c75])
        (try rw [if_neg c66, if_neg c66])
        refine r_iconst (pc := 82) C dX9_readsStatement_82 ?_
        refine r_istore_n (pc := 83) C 2 dX9_readsStatement_83 rfl (Nat.le_of_ble_eq_true rfl) ?_
        refine r_goto (pc := 84) (tgt := 153) C dX9_readsStatement_84 (by decide) ?_
        refine r_iload_n (pc := 153) C 2 dX9_readsStatement_153 rfl rfl ?_
        refine r_if_eq (pc := 154) (tgt := 170) C dX9_readsStatement_154 (by decide) (by first | omega | exact zand_rng _ _ | exact zor_rng _ _ | exact zxor_rng _ _ | exact BT.r (IT.b (by assumption)) _ _) (fun c154 => ?_) (fun c154 => absurd c154 (by omega))
        (try rw [if_neg c163])
        (try rw [if_neg c154, if_neg c154])
        refine r_iconst (pc := 170) C dX9_readsStatement_170 ?_
        exact r_zret (pc := 171) C hQ dX9_readsStatement_171 (by decide) rfl (by first | exact aRS_n (sE_hn s18_104 c154 c163) (by have := sP2_r (L := R 6) (n := R 0 1) (p := p + 1) (by omega) (by omega) (by omega); omega) | exact aRS_n (sE_hd s18_104 c154) (by have := sP2_r (L := R 6) (n := R 0 1) (p := p + 1) (by omega) (by omega) (by omega); omega) | exact aRS_n (by unfold sE sED sEK sES; (repeat (first | rw [if_pos (by first | assumption | omega)] | rw [if_neg (by first | assumption | omega)])); (try omega)) (by omega))
      · (try rw [if_pos c75, if_pos c75])
        have hc75 := sg_p (L := R 6) (n := R 0 1) (p := p + 1 + 1) (by omega)
        refine r_iconst (pc := 78) C dX9_readsStatement_78 ?_
        refine r_goto (pc := 79) (tgt := 83) C dX9_readsStatement_79 (by decide) ?_
        refine r_istore_n (pc := 83) C 2 dX9_readsStatement_83 rfl (Nat.le_of_ble_eq_true rfl) ?_
        refine r_goto (pc := 84) (tgt := 153) C dX9_readsStatement_84 (by decide) ?_
        refine r_iload_n (pc := 153) C 2 dX9_readsStatement_153 rfl rfl ?_
        refine r_if_eq (pc := 154) (tgt := 170) C dX9_readsStatement_154 (by decide) (by first | omega | exact zand_rng _ _ | exact zor_rng _ _ | exact zxor_rng _ _ | exact BT.r (IT.b (by assumption)) _ _) (fun c154 => absurd c154 (by omega)) (fun c154 => ?_)
        (try rw [if_pos c154, if_pos c154])
        (try have hc154 := sg_p (L := R 6) (n := R 0 1) (p := p + 1) (by omega))
        refine r_aload_n (pc := 157) C 0 dX9_readsStatement_157 rfl rfl ?_
        refine r_bipush (pc := 158) C dX9_readsStatement_158 (by decide) ?_
        refine r_callV (pc := 160) (is := [0, 1, 2, 3, 4, 5, 6, 7, 8]) C YX9_takes dX9_readsStatement_160 tw_819 (c_X9_takes l G _ _ _ _ _ _ (by first | assumption | omega | exact zand_rng _ _ | exact zor_rng _ _ | exact zxor_rng _ _ | exact BT.r (IT.b (by assumption)) _ _) (by first | assumption | omega | exact zand_rng _ _ | exact zor_rng _ _ | exact zxor_rng _ _ | exact BT.r (IT.b (by assumption)) _ _) (by first | assumption | omega | exact zand_rng _ _ | exact zor_rng _ _ | exact zxor_rng _ _ | exact BT.r (IT.b (by assumption)) _ _) (by first | assumption | omega | exact zand_rng _ _ | exact zor_rng _ _ | exact zxor_rng _ _ | exact BT.r (IT.b (by assumption)) _ _)) 0 0 rfl rfl (ci := 9) rfl rfl rfl (by decide) rfl rfl (Nat.le_of_ble_eq_true rfl) ⟨rfl, rfl, by decide, by decide⟩ (jst_i (R_uall ..) ?_)
        refine r_ifb_eq (pc := 163) (tgt := 170) C dX9_readsStatement_163 (by decide) (fun c163 => ?_) (fun c163 => ?_)
        · (try rw [if_neg c163])
          (try rw [if_neg c154, if_neg c154])
          refine r_iconst (pc := 170) C dX9_readsStatement_170 ?_
          exact r_zret (pc := 171) C hQ dX9_readsStatement_171 (by decide) rfl (by first | exact aRS_n (sE_hn s18_104 c154 c163) (by have := sP2_r (L := R 6) (n := R 0 1) (p := p + 1) (by omega) (by omega) (by omega); omega) | exact aRS_n (sE_hd s18_104 c154) (by have := sP2_r (L := R 6) (n := R 0 1) (p := p + 1) (by omega) (by omega) (by omega); omega) | exact aRS_n (by unfold sE sED sEK sES; (repeat (first | rw [if_pos (by first | assumption | omega)] | rw [if_neg (by first | assumption | omega)])); (try omega)) (by omega))
        · rw [if_pos c163]
          refine r_iconst (pc := 166) C dX9_readsStatement_166 ?_
          refine r_goto (pc := 167) (tgt := 171) C dX9_readsStatement_167 (by decide) ?_
          exact r_zret (pc := 171) C hQ dX9_readsStatement_171 (by decide) rfl (by first | exact aRS_y (sE_hy s18_104 c154 c163) (by have := sP2_r (L := R 6) (n := R 0 1) (p := p + 1) (by omega) (by omega) (by omega); omega) ⟨fun q => by omega, fun q => by omega, fun q => by omega, fun _ => rfl⟩ | exact aRS_y (by unfold sE sED sEK sES; (repeat (first | rw [if_pos (by first | assumption | omega)] | rw [if_neg (by first | assumption | omega)])); (try omega)) (by omega) ⟨fun q => by first | omega | exact ⟨rfl, rfl⟩, fun q => by first | omega | exact ⟨rfl, rfl, rfl⟩, fun q => by first | omega | rfl, fun q => by first | omega | rfl⟩)
  by_cases s18_111 : sg (R 6) (R 0 1) p = 111
  · refine r_look (pc := 18) (tgt := 121) (off := 103) C dX9_readsStatement_18 (by first | omega | exact zand_rng _ _ | exact zor_rng _ _ | exact zxor_rng _ _ | exact BT.r (IT.b (by assumption)) _ _) (by decide) (by (try show Op.lookupswitch.offset _ _ _ = _); rw [z_osw s18_100]; rw [z_osw s18_104]; rw [z_osw s18_108]; rw [s18_111]; (try exact z_osy)) (by decide) ?_
    have hx0 := sg_p (L := R 6) (n := R 0 1) (p := p) (by omega)
    refine r_aload_n (pc := 121) C 0 dX9_readsStatement_121 rfl rfl ?_
    refine r_iconst (pc := 122) C dX9_readsStatement_122 ?_
    refine r_iconst (pc := 123) C dX9_readsStatement_123 ?_
    refine r_callV (pc := 124) (is := [0, 1, 2, 3, 4, 5, 6, 7, 8]) C YX9_readsNumber dX9_readsStatement_124 tw_805 (c_X9_readsNumber1 l G _ _ _ _ _ _ (by first | assumption | omega | exact zand_rng _ _ | exact zor_rng _ _ | exact zxor_rng _ _ | exact BT.r (IT.b (by assumption)) _ _) (by first | assumption | omega | exact zand_rng _ _ | exact zor_rng _ _ | exact zxor_rng _ _ | exact BT.r (IT.b (by assumption)) _ _) (by first | assumption | omega | exact zand_rng _ _ | exact zor_rng _ _ | exact zxor_rng _ _ | exact BT.r (IT.b (by assumption)) _ _) (by first | assumption | omega | exact zand_rng _ _ | exact zor_rng _ _ | exact zxor_rng _ _ | exact BT.r (IT.b (by assumption)) _ _)) 0 0 rfl rfl (ci := 9) rfl rfl rfl (by decide) rfl rfl (Nat.le_of_ble_eq_true rfl) ⟨rfl, rfl, by decide, by decide⟩ (jst_i (R_uall ..) ?_)
    refine r_istore_n (pc := 127) C 2 dX9_readsStatement_127 rfl (Nat.le_of_ble_eq_true rfl) ?_
    refine r_goto (pc := 128) (tgt := 153) C dX9_readsStatement_128 (by decide) ?_
    refine r_iload_n (pc := 153) C 2 dX9_readsStatement_153 rfl rfl ?_
    refine r_ifb_eq (pc := 154) (tgt := 170) C dX9_readsStatement_154 (by decide) (fun c154 => ?_) (fun c154 => ?_)
    · (try rw [if_neg c163])
      (try rw [if_neg c154, if_neg c154])
      refine r_iconst (pc := 170) C dX9_readsStatement_170 ?_
      exact r_zret (pc := 171) C hQ dX9_readsStatement_171 (by decide) rfl (by first | exact aRS_n (sE_hn s18_104 c154 c163) (by have := sP2_r (L := R 6) (n := R 0 1) (p := p + 1) (by omega) (by omega) (by omega); omega) | exact aRS_n (sE_hd s18_104 c154) (by have := sP2_r (L := R 6) (n := R 0 1) (p := p + 1) (by omega) (by omega) (by omega); omega) | exact aRS_n (by unfold sE sED sEK sES; (repeat (first | rw [if_pos (by first | assumption | omega)] | rw [if_neg (by first | assumption | omega)])); (try omega)) (by omega))
    · (try rw [if_pos c154, if_pos c154])
      (try have hc154 := sg_p (L := R 6) (n := R 0 1) (p := p + 1) (by omega))
      refine r_aload_n (pc := 157) C 0 dX9_readsStatement_157 rfl rfl ?_
      refine r_bipush (pc := 158) C dX9_readsStatement_158 (by decide) ?_
      refine r_callV (pc := 160) (is := [0, 1, 2, 3, 4, 5, 6, 7, 8]) C YX9_takes dX9_readsStatement_160 tw_819 (c_X9_takes l G _ _ _ _ _ _ (by first | assumption | omega | exact zand_rng _ _ | exact zor_rng _ _ | exact zxor_rng _ _ | exact BT.r (IT.b (by assumption)) _ _) (by first | assumption | omega | exact zand_rng _ _ | exact zor_rng _ _ | exact zxor_rng _ _ | exact BT.r (IT.b (by assumption)) _ _) (by first | assumption | omega | exact zand_rng _ _ | exact zor_rng _ _ | exact zxor_rng _ _ | exact BT.r (IT.b (by assumption)) _ _) (by first | assumption | omega | exact zand_rng _ _ | exact zor_rng _ _ | exact zxor_rng _ _ | exact BT.r (IT.b (by assumption)) _ _)) 0 0 rfl rfl (ci := 9) rfl rfl rfl (by decide) rfl rfl (Nat.le_of_ble_eq_true rfl) ⟨rfl, rfl, by decide, by decide⟩ (jst_i (R_uall ..) ?_)
      refine r_ifb_eq (pc := 163) (tgt := 170) C dX9_readsStatement_163 (by decide) (fun c163 => ?_) (fun c163 => ?_)
      · (try rw [if_neg c163])
        (try rw [if_neg c154, if_neg c154])
        refine r_iconst (pc := 170) C dX9_readsStatement_170 ?_
        exact r_zret (pc := 171) C hQ dX9_readsStatement_171 (by decide) rfl (by first | exact aRS_n (sE_hn s18_104 c154 c163) (by have := sP2_r (L := R 6) (n := R 0 1) (p := p + 1) (by omega) (by omega) (by omega); omega) | exact aRS_n (sE_hd s18_104 c154) (by have := sP2_r (L := R 6) (n := R 0 1) (p := p + 1) (by omega) (by omega) (by omega); omega) | exact aRS_n (by unfold sE sED sEK sES; (repeat (first | rw [if_pos (by first | assumption | omega)] | rw [if_neg (by first | assumption | omega)])); (try omega)) (by omega))
      · rw [if_pos c163]
        refine r_iconst (pc := 166) C dX9_readsStatement_166 ?_
        refine r_goto (pc := 167) (tgt := 171) C dX9_readsStatement_167 (by decide) ?_
        exact r_zret (pc := 171) C hQ dX9_readsStatement_171 (by decide) rfl (by first | exact aRS_y (sE_hy s18_104 c154 c163) (by have := sP2_r (L := R 6) (n := R 0 1) (p := p + 1) (by omega) (by omega) (by omega); omega) ⟨fun q => by omega, fun q => by omega, fun q => by omega, fun _ => rfl⟩ | exact aRS_y (by unfold sE sED sEK sES; (repeat (first | rw [if_pos (by first | assumption | omega)] | rw [if_neg (by first | assumption | omega)])); (try omega)) (by omega) ⟨fun q => by first | omega | exact ⟨rfl, rfl⟩, fun q => by first | omega | exact ⟨rfl, rfl, rfl⟩, fun q => by first | omega | rfl, fun q => by first | omega | rfl⟩)
  refine r_look (pc := 18) (tgt := 141) (off := 123) C dX9_readsStatement_18 (by first | omega | exact zand_rng _ _ | exact zor_rng _ _ | exact zxor_rng _ _ | exact BT.r (IT.b (by assumption)) _ _) (by decide) (by (try show Op.lookupswitch.offset _ _ _ = _); rw [z_osw s18_100]; rw [z_osw s18_104]; rw [z_osw s18_108]; rw [z_osw s18_111]; (try rfl)) (by decide) ?_
  refine r_aload_n (pc := 141) C 0 dX9_readsStatement_141 rfl rfl ?_
  refine r_dup (pc := 142) C dX9_readsStatement_142 rfl ?_
  refine r_get (pc := 143) C 0 0 9 dX9_readsStatement_143 in_X9 rfl rfl (ci := 9) rfl (by decide) tw_750 rfl rfl ?_
  refine r_iconst (pc := 146) C dX9_readsStatement_146 ?_
  refine r_isub (pc := 147) C dX9_readsStatement_147 ?_
  refine r_put (pc := 148) C 0 0 9 dX9_readsStatement_148 in_X9 tyX9_ok nmX9 rfl rfl (ci := 9) rfl (by decide) tw_750 rfl rfl (tyX9_ok 9 (by decide)) rfl rfl (Nat.le_of_ble_eq_true rfl) rfl (rd_p9 (q := p) (by show p + 1 - 1 = p; omega)) ?_
  refine r_iconst (pc := 151) C dX9_readsStatement_151 ?_
  exact r_zret (pc := 152) C hQ dX9_readsStatement_152 (by decide) rfl (by exact aRS_n (by unfold sE; (repeat rw [if_neg (by omega)])) (by omega))

