/-- the answer; what is in mind is anything -/
def aE (G : GT) (a : Nat → Nat) (q v : Int) (X1 X2 N1 N2 P S : Tn) : Option Value → List va_W → Prop := fun o g => o = some (.int (iI (zans q v))) ∧ ∃ M' F2 F3, g = wC G a (up1 (up1 (zif q X1 X2) 2 F2) 3 F3) (zif q N1 N2) M' P S
theorem fin_okE {G : GT} {a : Nat → Nat} {q x v : Int} {X1 X2 N1 N2 M1 P S : Tn} {F2 F3 : Int → Int} {gs : List va_W} (hq : q = 0) (hv : x = v) (hR : gs = wC G a (up1 (up1 X1 2 F2) 3 F3) N1 M1 P S) : aE G a q v X1 X2 N1 N2 P S (some (.int (iI x))) gs := by
  subst hv hR
  unfold aE zans zif
  rw [if_pos hq, if_pos hq, if_pos hq]
  exact ⟨rfl, M1, F2, F3, rfl⟩
theorem fin_okM {G : GT} {a : Nat → Nat} {q x v : Int} {X1 X2 N1 N2 M1 P S : Tn} {gs : List va_W} (hq : q = 0) (hv : x = v) (hR : gs = wC G a X1 N1 M1 P S) : aE G a q v X1 X2 N1 N2 P S (some (.int (iI x))) gs := by
  refine fin_okE (M1 := M1) (F2 := X1 2) (F3 := X1 3) hq hv ?_
  rw [hR, up1_id, up1_id]
theorem fin_noM {G : GT} {a : Nat → Nat} {q c v : Int} {X1 X N1 N M P S : Tn} {gs : List va_W} (hq : q = c) (hc : c ≠ 0) (hR : gs = wC G a (xrf X c) N M P S) : aE G a q v X1 (xrf X q) N1 N P S (some (.int (iI c))) gs := by
  subst hq hR
  unfold aE zans zif
  rw [if_neg hc, if_neg hc, if_neg hc]
  refine ⟨rfl, M, xrf X q 2, xrf X q 3, ?_⟩
  rw [up1_id, up1_id]
theorem fin_noE {G : GT} {a : Nat → Nat} {q c v : Int} {X1 X N1 N M P S : Tn} {gs : List va_W} (hq : q = c) (hc : c ≠ 0) (hR : gs = wC G a (xrf X c) N M P S) : aE G a q v X1 (xrf X q) N1 N P S (some (.int (iI c))) gs := fin_noM hq hc hR
/-- how many are as told -/
def sSm (f : Int → Int) (T : Tn) (m : Int) : Int := if sFind (fun d => f d ≠ T 6 d) m < 0 then m else sFind (fun d => f d ≠ T 6 d) m
theorem sSm_y {f : Int → Int} {T : Tn} {m : Int} (h0 : 0 ≤ m) (h : ∀ j, 0 ≤ j → j < m → f j = T 6 j) : sSm f T m = m := by
  unfold sSm
  rw [sFind_no _ h0 (fun j a b => by simp only [ne_eq, Classical.not_not]; exact h j a b), if_pos (by decide)]
theorem sSm_n {f : Int → Int} {T : Tn} {m i : Int} (h0 : 0 ≤ i) (hi : i < m) (h : ∀ j, 0 ≤ j → j < i → f j = T 6 j) (hn : f i ≠ T 6 i) : sSm f T m = i := by
  unfold sSm
  rw [sFind_is (fun d => f d ≠ T 6 d) h0 (fun j a b q => q (h j a b)) hn hi, if_neg (by omega)]
theorem sSm_c (f : Int → Int) (T : Tn) {m : Int} (h0 : 0 ≤ m) : (sSm f T m = m ∧ ∀ j, 0 ≤ j → j < m → f j = T 6 j) ∨ (0 ≤ sSm f T m ∧ sSm f T m < m ∧ f (sSm f T m) ≠ T 6 (sSm f T m) ∧ ∀ j, 0 ≤ j → j < sSm f T m → f j = T 6 j) := by
  by_cases h : ∀ j, 0 ≤ j → j < m → f j = T 6 j
  · exact Or.inl ⟨sSm_y h0 h, h⟩
  · right
    have H : ∀ n : Nat, (n : Int) ≤ m → (∀ j, 0 ≤ j → j < (n : Int) → f j = T 6 j) ∨ ∃ i, 0 ≤ i ∧ i < (n : Int) ∧ (∀ j, 0 ≤ j → j < i → f j = T 6 j) ∧ f i ≠ T 6 i := by
      intro n
      induction n with
      | zero => intro _; exact Or.inl (fun j a b => by omega)
      | succ n ih =>
        intro hb
        rcases ih (by omega) with ih | ⟨i, i0, i1, i2, i3⟩
        · by_cases e : f n = T 6 n
          · refine Or.inl (fun j a b => ?_)
            by_cases q : j = n
            · rw [q]; exact e
            · exact ih j a (by omega)
          · exact Or.inr ⟨n, by omega, by omega, ih, e⟩
        · exact Or.inr ⟨i, i0, by omega, i2, i3⟩
    rcases H m.toNat (by omega) with q | ⟨i, i0, i1, i2, i3⟩
    · exact absurd (fun j a b => q j a (by omega)) h
    · have := sSm_n (f := f) (T := T) (m := m) i0 (by omega) i2 i3
      rw [this]
      exact ⟨i0, by omega, i3, i2⟩
theorem v_judge_is {T : Tn} {f : Int → Int} {n : Int} (h0 : 0 ≤ n) (hD : 0 ≤ T 0 1) : v_judge T f n = if sSm f T (if T 0 1 < n then T 0 1 else n) = n ∧ sSm f T (if T 0 1 < n then T 0 1 else n) = T 0 1 then -9 else sSm f T (if T 0 1 < n then T 0 1 else n) := by
  have hm : 0 ≤ (if T 0 1 < n then T 0 1 else n) := by split <;> omega
  have hml : (if T 0 1 < n then T 0 1 else n) ≤ n ∧ (if T 0 1 < n then T 0 1 else n) ≤ T 0 1 ∧ ((if T 0 1 < n then T 0 1 else n) = n ∨ (if T 0 1 < n then T 0 1 else n) = T 0 1) := by split <;> omega
  rcases sSm_c f T hm with ⟨a1, a2⟩ | ⟨a1, a2, a3, a4⟩
  · rw [a1]
    unfold v_judge
    by_cases e : T 0 1 < n
    · rw [if_pos e] at a2 ⊢
      rw [sFind_is (fun d => d = T 0 1 ∨ f d ≠ T 6 d) hD (fun j p q => by rw [a2 j p q]; omega) (Or.inl rfl) e, if_pos hD, if_neg (by omega)]
    · rw [if_neg e] at a2 ⊢
      rw [sFind_no (fun d => d = T 0 1 ∨ f d ≠ T 6 d) h0 (fun j p q => by rw [a2 j p q]; omega), if_neg (by decide)]
      by_cases e2 : n < T 0 1
      · rw [if_pos e2, if_neg (by omega)]
      · rw [if_neg e2, if_pos (by omega)]
  · generalize hk : sSm f T (if T 0 1 < n then T 0 1 else n) = k at a1 a2 a3 a4 ⊢
    unfold v_judge
    rw [sFind_is (fun d => d = T 0 1 ∨ f d ≠ T 6 d) a1 (fun j p q => by rw [a4 j p q]; omega) (Or.inr a3) (by omega), if_pos a1, if_neg (by omega)]
def sB1 (f : Int → Int) (i : Int) : Int := if i = 0 then 0 else (sBest f i).1
def sB2 (f : Int → Int) (i : Int) : Int := if i = 0 then -1 else (sBest f i).2
theorem sB_or (f : Int → Int) (i : Int) : (i = 0 ∧ sB1 f i = 0 ∧ sB2 f i = -1) ∨ (i ≠ 0 ∧ sB1 f i = (sBest f i).1 ∧ sB2 f i = (sBest f i).2) := by
  unfold sB1 sB2
  by_cases e : i = 0
  · rw [if_pos e, if_pos e]; exact Or.inl ⟨e, rfl, rfl⟩
  · rw [if_neg e, if_neg e]; exact Or.inr ⟨e, rfl, rfl⟩
theorem sB_y {f : Int → Int} {i : Int} (h0 : 0 ≤ i) (h : i = 0 ∨ (sBest f i).2 < f i) : sB1 f (i + 1) = i ∧ sB2 f (i + 1) = f i := by
  unfold sB1 sB2
  rw [if_neg (by omega), if_neg (by omega), sBest_s f h0]
  by_cases e : i = 0
  · subst e
    rw [if_neg (fun q => absurd q.1 (by show ¬ (0 : Int) ≤ -9; decide))]
    exact ⟨rfl, rfl⟩
  · rw [if_neg (by omega)]
    exact ⟨rfl, rfl⟩
theorem sB_n {f : Int → Int} {i : Int} (h0 : 0 ≤ i) (hi : i ≠ 0) (hb : 0 ≤ (sBest f i).1) (h : f i ≤ (sBest f i).2) : sB1 f (i + 1) = sB1 f i ∧ sB2 f (i + 1) = sB2 f i := by
  unfold sB1 sB2
  simp only [if_neg (show ¬ i + 1 = 0 by omega), if_neg hi]
  rw [sBest_s f h0, if_pos ⟨hb, h⟩]
  exact ⟨rfl, rfl⟩
set_option maxRecDepth 100000 in
set_option maxHeartbeats 4000000 in
theorem c_X8_run (l : Launch) (G : GT) (a : Nat → Nat) (X N M P S : Tn) (z m : Int) (hI : IT N) (hX : IX X S) (hk9 : N 0 4 ≤ 999) (gz : -2147483648 ≤ z ∧ z < 2147483648) (gm : -2147483648 ≤ m ∧ m < 2147483648) : Cn l yX8_run cX8_run 5 (Option.some .int) ({ frames := 6, cells := 0, slots := 0, locals := 140 }) G [.ref (a 0), .int (iI z), .int (iI m)] (wC G a X N M P S) (aE G a (q_lo N z m 0 999) (v_run N z m) (X) (xrf X (q_lo N z m 0 999)) (N) N P S) := by
  refine Cn_in RX8 [some (.ref (a 0)), some (.int (iI z)), some (.int (iI m)), none, none] (by decide +kernel) rfl rfl rfl (Nat.le_of_ble_eq_true rfl) (fun K C hQ => ?_)
  obtain ⟨x1, s1, x3, s6, x8⟩ := hX
  have hBB := hI.b
  have hLL := hI.L
  have hDD := hI.D
  have hkk := hI.k
  refine r_aload_n (pc := 0) C 0 dX8_run_0 rfl rfl ?_
  refine r_get (pc := 1) C 0 0 0 dX8_run_1 in_X8 rfl rfl (ci := 8) rfl (by decide) tw_143 rfl rfl ?_
  refine r_iload_n (pc := 4) C 1 dX8_run_4 rfl rfl ?_
  refine r_callV (pc := 5) (is := [1]) C YX6_hasLoft dX8_run_5 tw_399 (c_X6_hasLoft l G _ _ _ (by first | assumption | omega | exact zand_rng _ _ | exact zor_rng _ _ | exact zxor_rng _ _ | exact BT.r (IT.b (by assumption)) _ _) (by first | assumption | omega | exact zand_rng _ _ | exact zor_rng _ _ | exact zxor_rng _ _ | exact BT.r (IT.b (by assumption)) _ _)) 1 0 rfl rfl (ci := 6) rfl rfl rfl (by decide) rfl rfl (Nat.le_of_ble_eq_true rfl) ⟨rfl, rfl, by decide, by decide⟩ (jst_i (C_u1 ..) ?_)
  refine r_ifb_eq (pc := 8) (tgt := 22) C dX8_run_8 (by decide) (fun c8 => ?_) (fun c8 => ?_)
  · refine r_iconst (pc := 22) C dX8_run_22 ?_
    refine r_istore_n (pc := 23) C 3 dX8_run_23 rfl (Nat.le_of_ble_eq_true rfl) ?_
    refine r_iload_n (pc := 24) C 3 dX8_run_24 rfl rfl ?_
    refine r_if_eq (pc := 25) (tgt := 34) C dX8_run_25 (by decide) (by first | omega | exact zand_rng _ _ | exact zor_rng _ _ | exact zxor_rng _ _ | exact BT.r (IT.b (by assumption)) _ _) (fun c25 => absurd c25 (by omega)) (fun c25 => ?_)
    refine r_aload_n (pc := 28) C 0 dX8_run_28 rfl rfl ?_
    refine r_iload_n (pc := 29) C 3 dX8_run_29 rfl rfl ?_
    refine r_callV (pc := 30) (is := [0, 1, 2, 3, 4]) C YX8_refuse dX8_run_30 tw_185 (c_X8_refuse l G _ _ _ _ _ _ _ (by first | assumption | omega | exact zand_rng _ _ | exact zor_rng _ _ | exact zxor_rng _ _ | exact BT.r (IT.b (by assumption)) _ _)) 0 0 rfl rfl (ci := 8) rfl rfl rfl (by decide) rfl rfl (Nat.le_of_ble_eq_true rfl) ⟨rfl, rfl, by decide, by decide⟩ (jst_i (C_uall ..) ?_)
    exact r_iret (pc := 33) C hQ dX8_run_33 rfl (fin_noM (by unfold q_lo; (repeat (first | rw [if_pos (by omega)] | rw [if_neg (by omega)])); (try first | rfl | assumption | omega)) (by omega) rfl)
  · refine r_iload_n (pc := 11) C 2 dX8_run_11 rfl rfl ?_
    refine r_iconst (pc := 12) C dX8_run_12 ?_
    refine r_sipush (pc := 13) C dX8_run_13 (by decide) ?_
    refine r_callS (pc := 16) (is := []) C YX8_outside dX8_run_16 tw_178 (c_X8_outside l G _ _ _ (by first | assumption | omega | exact zand_rng _ _ | exact zor_rng _ _ | exact zxor_rng _ _ | exact BT.r (IT.b (by assumption)) _ _) (by first | assumption | omega | exact zand_rng _ _ | exact zor_rng _ _ | exact zxor_rng _ _ | exact BT.r (IT.b (by assumption)) _ _) (by first | assumption | omega | exact zand_rng _ _ | exact zor_rng _ _ | exact zxor_rng _ _ | exact BT.r (IT.b (by assumption)) _ _)) rfl (by decide) rfl rfl (Nat.le_of_ble_eq_true rfl) ⟨rfl, rfl, by decide, by decide⟩ (jst_i (ups_nil _) ?_)
    have hs16 := sOut_r m 0 999 (by decide)
    refine r_goto (pc := 19) (tgt := 23) C dX8_run_19 (by decide) ?_
    refine r_istore_n (pc := 23) C 3 dX8_run_23 rfl (Nat.le_of_ble_eq_true rfl) ?_
    refine r_iload_n (pc := 24) C 3 dX8_run_24 rfl rfl ?_
    refine r_if_eq (pc := 25) (tgt := 34) C dX8_run_25 (by decide) (by first | omega | exact zand_rng _ _ | exact zor_rng _ _ | exact zxor_rng _ _ | exact BT.r (IT.b (by assumption)) _ _) (fun c25 => ?_) (fun c25 => ?_)
    · refine r_aload_n (pc := 34) C 0 dX8_run_34 rfl rfl ?_
      refine r_get (pc := 35) C 0 0 1 dX8_run_35 in_X8 rfl rfl (ci := 8) rfl (by decide) tw_144 rfl rfl ?_
      refine r_aload_n (pc := 38) C 0 dX8_run_38 rfl rfl ?_
      refine r_get (pc := 39) C 0 0 0 dX8_run_39 in_X8 rfl rfl (ci := 8) rfl (by decide) tw_143 rfl rfl ?_
      refine r_callV (pc := 42) (is := [2, 1]) C YX6_become dX8_run_42 tw_343 (c_X6_become l G _ _ _ _) 2 0 rfl rfl (ci := 6) rfl rfl rfl (by decide) rfl rfl (Nat.le_of_ble_eq_true rfl) ⟨rfl, rfl, by decide, by decide⟩ (jst_v (C_u2_1 ..) ?_)
      refine r_iconst (pc := 45) C dX8_run_45 ?_
      refine r_istore (pc := 46) C dX8_run_46 (Nat.le_of_ble_eq_true rfl) ?_
      have L48 : ∀ (n : Nat) (i : Int), 0 ≤ i → i ≤ (41 : Int) → (41 : Int) < i + n → (∀ j, 0 ≤ j → j < i → ¬ (sPur N z (j) < m)) → Wc K G 48 [some (.ref (a 0)), some (.int (iI z)), some (.int (iI m)), none, some (.int (iI i))] [] (wC G a X N (sDusks N i) P S) := by
        intro n
        induction n with
        | zero =>
          intro i h0 h1 hn; omega
        | succ n ih =>
          intro i h0 h1 hn hp
          obtain ⟨hU, hUD, hU0, -, -, hU4, -⟩ := sDusks_p hI h0 (by omega)
          have hp9 := sPurse_r hU z hU.D.1 (Int.le_refl _)
          have hpq : sPur N z i = sPurse (sDusks N i) z (sDusks N i 0 1) := rfl
          refine r_iload (pc := 48) C dX8_run_48 rfl ?_
          refine r_bipush (pc := 50) C dX8_run_50 (by decide) ?_
          refine r_icmp_gt (pc := 52) (tgt := 84) C dX8_run_52 (by decide) (by first | omega | exact zand_rng _ _ | exact zor_rng _ _ | exact zxor_rng _ _ | exact BT.r (IT.b (by assumption)) _ _) (by first | omega | exact zand_rng _ _ | exact zor_rng _ _ | exact zxor_rng _ _ | exact BT.r (IT.b (by assumption)) _ _) (fun c52 => ?_) (fun c52 => ?_)
          · refine r_bipush (pc := 84) C dX8_run_84 (by decide) ?_
            obtain rfl : i = 41 := by omega
            exact r_iret (pc := 86) C hQ dX8_run_86 rfl (fin_okM (by unfold q_lo; (repeat (first | rw [if_pos (by omega)] | rw [if_neg (by omega)])); (try first | rfl | assumption | omega)) (by exact (sFind_no _ (by decide) hp).symm) (by rfl))
          · refine r_aload_n (pc := 55) C 0 dX8_run_55 rfl rfl ?_
            refine r_get (pc := 56) C 0 0 1 dX8_run_56 in_X8 rfl rfl (ci := 8) rfl (by decide) tw_144 rfl rfl ?_
            refine r_iload_n (pc := 59) C 1 dX8_run_59 rfl rfl ?_
            refine r_callV (pc := 60) (is := [2]) C YX6_purseOf dX8_run_60 tw_407 (c_X6_purseOf l G _ _ _ (by first | assumption | omega | exact zand_rng _ _ | exact zor_rng _ _ | exact zxor_rng _ _ | exact BT.r (IT.b (by assumption)) _ _) (by first | assumption | omega | exact zand_rng _ _ | exact zor_rng _ _ | exact zxor_rng _ _ | exact BT.r (IT.b (by assumption)) _ _)) 2 0 rfl rfl (ci := 6) rfl rfl rfl (by decide) rfl rfl (Nat.le_of_ble_eq_true rfl) ⟨rfl, rfl, by decide, by decide⟩ (jst_i (C_u2 ..) ?_)
            refine r_iload_n (pc := 63) C 2 dX8_run_63 rfl rfl ?_
            refine r_icmp_ge (pc := 64) (tgt := 70) C dX8_run_64 (by decide) (by first | omega | exact zand_rng _ _ | exact zor_rng _ _ | exact zxor_rng _ _ | exact BT.r (IT.b (by assumption)) _ _) (by first | omega | exact zand_rng _ _ | exact zor_rng _ _ | exact zxor_rng _ _ | exact BT.r (IT.b (by assumption)) _ _) (fun c64 => ?_) (fun c64 => ?_)
            · refine r_aload_n (pc := 70) C 0 dX8_run_70 rfl rfl ?_
              refine r_get (pc := 71) C 0 0 1 dX8_run_71 in_X8 rfl rfl (ci := 8) rfl (by decide) tw_144 rfl rfl ?_
              refine r_callV (pc := 74) (is := [2]) C YX6_passDusk dX8_run_74 tw_543 (c_X6_passDusk l G _ _ (by first | assumption | omega | exact zand_rng _ _ | exact zor_rng _ _ | exact zxor_rng _ _ | exact BT.r (IT.b (by assumption)) _ _) (by first | assumption | omega | exact zand_rng _ _ | exact zor_rng _ _ | exact zxor_rng _ _ | exact BT.r (IT.b (by assumption)) _ _)) 2 0 rfl rfl (ci := 6) rfl rfl rfl (by decide) rfl rfl (Nat.le_of_ble_eq_true rfl) ⟨rfl, rfl, by decide, by decide⟩ (jst_i (C_u2 ..) ?_)
              refine r_pop (pc := 77) C dX8_run_77 rfl ?_
              refine r_iinc (pc := 78) C dX8_run_78 rfl ?_
              refine r_goto (pc := 81) (tgt := 48) C dX8_run_81 (by decide) ?_
              refine Wc.to (ih (i + 1) (by omega) (by omega) (by omega) (fun j a c => if e : j = i then by rw [e]; show ¬ (sPur N z (i) < m); omega else hp j a (by omega))) rfl (lsub_s rfl (lsub_s rfl (lsub_s rfl (lsub_n (lsub_s rfl lsub_0))))) (by first | rfl | rw [sDusks_s N h0])
            · refine r_iload (pc := 67) C dX8_run_67 rfl ?_
              exact r_iret (pc := 69) C hQ dX8_run_69 rfl (fin_okM (by unfold q_lo; (repeat (first | rw [if_pos (by omega)] | rw [if_neg (by omega)])); (try first | rfl | assumption | omega)) (by exact (sFind_is _ h0 hp (show sPur N z i < m by omega) (by omega)).symm) (by rfl))
      refine Wc.to (L48 (((41 : Int) - (0)).toNat + 1) (0) (by omega) (by omega) (by omega) (fun j a c => absurd c (by omega))) rfl (lsub_s rfl (lsub_s rfl (lsub_s rfl (lsub_n (lsub_s rfl lsub_0))))) (by rfl)
    · refine r_aload_n (pc := 28) C 0 dX8_run_28 rfl rfl ?_
      refine r_iload_n (pc := 29) C 3 dX8_run_29 rfl rfl ?_
      refine r_callV (pc := 30) (is := [0, 1, 2, 3, 4]) C YX8_refuse dX8_run_30 tw_185 (c_X8_refuse l G _ _ _ _ _ _ _ (by first | assumption | omega | exact zand_rng _ _ | exact zor_rng _ _ | exact zxor_rng _ _ | exact BT.r (IT.b (by assumption)) _ _)) 0 0 rfl rfl (ci := 8) rfl rfl rfl (by decide) rfl rfl (Nat.le_of_ble_eq_true rfl) ⟨rfl, rfl, by decide, by decide⟩ (jst_i (C_uall ..) ?_)
      exact r_iret (pc := 33) C hQ dX8_run_33 rfl (fin_noM (by unfold q_lo; (repeat (first | rw [if_pos (by omega)] | rw [if_neg (by omega)])); (try first | rfl | assumption | omega)) (by omega) rfl)

set_option maxRecDepth 100000 in
set_option maxHeartbeats 4000000 in
theorem c_X8_homing (l : Launch) (G : GT) (a : Nat → Nat) (X N M P S : Tn) (d : Int) (hI : IT N) (hX : IX X S) (hk9 : N 0 4 ≤ 999) (gd : -2147483648 ≤ d ∧ d < 2147483648) : Cn l yX8_homing cX8_homing 3 (Option.some .int) ({ frames := 5, cells := 0, slots := 0, locals := 140 }) G [.ref (a 0), .int (iI d)] (wC G a X N M P S) (aE G a (q_dov N d) (v_homing N d) (X) (xrf X (q_dov N d)) (N) N P S) := by
  refine Cn_in RX8 [some (.ref (a 0)), some (.int (iI d)), none] (by decide +kernel) rfl rfl rfl (Nat.le_of_ble_eq_true rfl) (fun K C hQ => ?_)
  obtain ⟨x1, s1, x3, s6, x8⟩ := hX
  have hBB := hI.b
  have hLL := hI.L
  have hDD := hI.D
  have hkk := hI.k
  refine r_aload_n (pc := 0) C 0 dX8_homing_0 rfl rfl ?_
  refine r_get (pc := 1) C 0 0 0 dX8_homing_1 in_X8 rfl rfl (ci := 8) rfl (by decide) tw_143 rfl rfl ?_
  refine r_iload_n (pc := 4) C 1 dX8_homing_4 rfl rfl ?_
  refine r_callV (pc := 5) (is := [1]) C YX6_hasDove dX8_homing_5 tw_476 (c_X6_hasDove l G _ _ _ (by first | assumption | omega | exact zand_rng _ _ | exact zor_rng _ _ | exact zxor_rng _ _ | exact BT.r (IT.b (by assumption)) _ _) (by first | assumption | omega | exact zand_rng _ _ | exact zor_rng _ _ | exact zxor_rng _ _ | exact BT.r (IT.b (by assumption)) _ _)) 1 0 rfl rfl (ci := 6) rfl rfl rfl (by decide) rfl rfl (Nat.le_of_ble_eq_true rfl) ⟨rfl, rfl, by decide, by decide⟩ (jst_i (C_u1 ..) ?_)
  refine r_ifb_ne (pc := 8) (tgt := 17) C dX8_homing_8 (by decide) (fun c8 => ?_) (fun c8 => ?_)
  · refine r_aload_n (pc := 17) C 0 dX8_homing_17 rfl rfl ?_
    refine r_get (pc := 18) C 0 0 1 dX8_homing_18 in_X8 rfl rfl (ci := 8) rfl (by decide) tw_144 rfl rfl ?_
    refine r_aload_n (pc := 21) C 0 dX8_homing_21 rfl rfl ?_
    refine r_get (pc := 22) C 0 0 0 dX8_homing_22 in_X8 rfl rfl (ci := 8) rfl (by decide) tw_143 rfl rfl ?_
    refine r_callV (pc := 25) (is := [2, 1]) C YX6_become dX8_homing_25 tw_343 (c_X6_become l G _ _ _ _) 2 0 rfl rfl (ci := 6) rfl rfl rfl (by decide) rfl rfl (Nat.le_of_ble_eq_true rfl) ⟨rfl, rfl, by decide, by decide⟩ (jst_v (C_u2_1 ..) ?_)
    refine r_iconst (pc := 28) C dX8_homing_28 ?_
    refine r_istore_n (pc := 29) C 2 dX8_homing_29 rfl (Nat.le_of_ble_eq_true rfl) ?_
    have L30 : ∀ (n : Nat) (i : Int), 0 ≤ i → i ≤ (41 : Int) → (41 : Int) < i + n → (∀ j, 0 ≤ j → j < i → ¬ (sDusks N (j) 6 d = sDusks N (j) 4 d)) → Wc K G 30 [some (.ref (a 0)), some (.int (iI d)), some (.int (iI i))] [] (wC G a X N (sDusks N i) P S) := by
      intro n
      induction n with
      | zero =>
        intro i h0 h1 hn; omega
      | succ n ih =>
        intro i h0 h1 hn hp
        obtain ⟨hU, hUD, hU0, -, -, hU4, -⟩ := sDusks_p hI h0 (by omega)
        refine r_iload_n (pc := 30) C 2 dX8_homing_30 rfl rfl ?_
        refine r_bipush (pc := 31) C dX8_homing_31 (by decide) ?_
        refine r_icmp_gt (pc := 33) (tgt := 63) C dX8_homing_33 (by decide) (by first | omega | exact zand_rng _ _ | exact zor_rng _ _ | exact zxor_rng _ _ | exact BT.r (IT.b (by assumption)) _ _) (by first | omega | exact zand_rng _ _ | exact zor_rng _ _ | exact zxor_rng _ _ | exact BT.r (IT.b (by assumption)) _ _) (fun c33 => ?_) (fun c33 => ?_)
        · refine r_bipush (pc := 63) C dX8_homing_63 (by decide) ?_
          obtain rfl : i = 41 := by omega
          exact r_iret (pc := 65) C hQ dX8_homing_65 rfl (fin_okM (by unfold q_dov; (repeat (first | rw [if_pos (by omega)] | rw [if_neg (by omega)])); (try first | rfl | assumption | omega)) (by exact (sFind_no _ (by decide) hp).symm) (by rfl))
        · refine r_aload_n (pc := 36) C 0 dX8_homing_36 rfl rfl ?_
          refine r_get (pc := 37) C 0 0 1 dX8_homing_37 in_X8 rfl rfl (ci := 8) rfl (by decide) tw_144 rfl rfl ?_
          refine r_iload_n (pc := 40) C 1 dX8_homing_40 rfl rfl ?_
          refine r_callV (pc := 41) (is := [2]) C YX6_isHome dX8_homing_41 tw_674 (c_X6_isHome l G _ _ _ (by first | assumption | omega | exact zand_rng _ _ | exact zor_rng _ _ | exact zxor_rng _ _ | exact BT.r (IT.b (by assumption)) _ _) (by first | assumption | omega | exact zand_rng _ _ | exact zor_rng _ _ | exact zxor_rng _ _ | exact BT.r (IT.b (by assumption)) _ _)) 2 0 rfl rfl (ci := 6) rfl rfl rfl (by decide) rfl rfl (Nat.le_of_ble_eq_true rfl) ⟨rfl, rfl, by decide, by decide⟩ (jst_i (C_u2 ..) ?_)
          refine r_ifb_eq (pc := 44) (tgt := 49) C dX8_homing_44 (by decide) (fun c44 => ?_) (fun c44 => ?_)
          · refine r_aload_n (pc := 49) C 0 dX8_homing_49 rfl rfl ?_
            refine r_get (pc := 50) C 0 0 1 dX8_homing_50 in_X8 rfl rfl (ci := 8) rfl (by decide) tw_144 rfl rfl ?_
            refine r_callV (pc := 53) (is := [2]) C YX6_passDusk dX8_homing_53 tw_543 (c_X6_passDusk l G _ _ (by first | assumption | omega | exact zand_rng _ _ | exact zor_rng _ _ | exact zxor_rng _ _ | exact BT.r (IT.b (by assumption)) _ _) (by first | assumption | omega | exact zand_rng _ _ | exact zor_rng _ _ | exact zxor_rng _ _ | exact BT.r (IT.b (by assumption)) _ _)) 2 0 rfl rfl (ci := 6) rfl rfl rfl (by decide) rfl rfl (Nat.le_of_ble_eq_true rfl) ⟨rfl, rfl, by decide, by decide⟩ (jst_i (C_u2 ..) ?_)
            refine r_pop (pc := 56) C dX8_homing_56 rfl ?_
            refine r_iinc (pc := 57) C dX8_homing_57 rfl ?_
            refine r_goto (pc := 60) (tgt := 30) C dX8_homing_60 (by decide) ?_
            refine Wc.to (ih (i + 1) (by omega) (by omega) (by omega) (fun j a c => if e : j = i then by rw [e]; show ¬ (sDusks N (i) 6 d = sDusks N (i) 4 d); omega else hp j a (by omega))) rfl (lsub_s rfl (lsub_s rfl (lsub_s rfl lsub_0))) (by first | rfl | rw [sDusks_s N h0])
          · refine r_iload_n (pc := 47) C 2 dX8_homing_47 rfl rfl ?_
            exact r_iret (pc := 48) C hQ dX8_homing_48 rfl (fin_okM (by unfold q_dov; (repeat (first | rw [if_pos (by omega)] | rw [if_neg (by omega)])); (try first | rfl | assumption | omega)) (by exact (sFind_is _ h0 hp (show sDusks N i 6 d = sDusks N i 4 d by omega) (by omega)).symm) (by rfl))
    refine Wc.to (L30 (((41 : Int) - (0)).toNat + 1) (0) (by omega) (by omega) (by omega) (fun j a c => absurd c (by omega))) rfl (lsub_s rfl (lsub_s rfl (lsub_s rfl lsub_0))) (by rfl)
  · refine r_aload_n (pc := 11) C 0 dX8_homing_11 rfl rfl ?_
    refine r_iconst (pc := 12) C dX8_homing_12 ?_
    refine r_callV (pc := 13) (is := [0, 1, 2, 3, 4]) C YX8_refuse dX8_homing_13 tw_185 (c_X8_refuse l G _ _ _ _ _ _ _ (by first | assumption | omega | exact zand_rng _ _ | exact zor_rng _ _ | exact zxor_rng _ _ | exact BT.r (IT.b (by assumption)) _ _)) 0 0 rfl rfl (ci := 8) rfl rfl rfl (by decide) rfl rfl (Nat.le_of_ble_eq_true rfl) ⟨rfl, rfl, by decide, by decide⟩ (jst_i (C_uall ..) ?_)
    exact r_iret (pc := 16) C hQ dX8_homing_16 rfl (fin_noM (by unfold q_dov; (repeat (first | rw [if_pos (by omega)] | rw [if_neg (by omega)])); (try first | rfl | assumption | omega)) (by omega) rfl)

set_option maxRecDepth 100000 in
set_option maxHeartbeats 4000000 in
theorem c_X8_spare (l : Launch) (G : GT) (a : Nat → Nat) (X N M P S : Tn) (m : Int) (hI : IT N) (hX : IX X S) (hk9 : N 0 4 ≤ 999) (gm : -2147483648 ≤ m ∧ m < 2147483648) : Cn l yX8_spare cX8_spare 4 (Option.some .int) ({ frames := 6, cells := 0, slots := 0, locals := 141 }) G [.ref (a 0), .int (iI m)] (wC G a X N M P S) (aE G a (sOut m 0 40) (v_spare N m) (X) (xrf X (sOut m 0 40)) (N) N P S) := by
  refine Cn_in RX8 [some (.ref (a 0)), some (.int (iI m)), none, none] (by decide +kernel) rfl rfl rfl (Nat.le_of_ble_eq_true rfl) (fun K C hQ => ?_)
  obtain ⟨x1, s1, x3, s6, x8⟩ := hX
  have hBB := hI.b
  have hLL := hI.L
  have hDD := hI.D
  have hkk := hI.k
  refine r_iload_n (pc := 0) C 1 dX8_spare_0 rfl rfl ?_
  refine r_iconst (pc := 1) C dX8_spare_1 ?_
  refine r_bipush (pc := 2) C dX8_spare_2 (by decide) ?_
  refine r_callS (pc := 4) (is := []) C YX8_outside dX8_spare_4 tw_178 (c_X8_outside l G _ _ _ (by first | assumption | omega | exact zand_rng _ _ | exact zor_rng _ _ | exact zxor_rng _ _ | exact BT.r (IT.b (by assumption)) _ _) (by first | assumption | omega | exact zand_rng _ _ | exact zor_rng _ _ | exact zxor_rng _ _ | exact BT.r (IT.b (by assumption)) _ _) (by first | assumption | omega | exact zand_rng _ _ | exact zor_rng _ _ | exact zxor_rng _ _ | exact BT.r (IT.b (by assumption)) _ _)) rfl (by decide) rfl rfl (Nat.le_of_ble_eq_true rfl) ⟨rfl, rfl, by decide, by decide⟩ (jst_i (ups_nil _) ?_)
  have hs4 := sOut_r m 0 40 (by decide)
  refine r_istore_n (pc := 7) C 2 dX8_spare_7 rfl (Nat.le_of_ble_eq_true rfl) ?_
  refine r_iload_n (pc := 8) C 2 dX8_spare_8 rfl rfl ?_
  refine r_if_eq (pc := 9) (tgt := 18) C dX8_spare_9 (by decide) (by first | omega | exact zand_rng _ _ | exact zor_rng _ _ | exact zxor_rng _ _ | exact BT.r (IT.b (by assumption)) _ _) (fun c9 => ?_) (fun c9 => ?_)
  · refine r_iconst (pc := 18) C dX8_spare_18 ?_
    refine r_istore_n (pc := 19) C 3 dX8_spare_19 rfl (Nat.le_of_ble_eq_true rfl) ?_
    have L20 : ∀ (n : Nat) (i : Int) (M9 : Tn), 0 ≤ i → i ≤ 21 → 21 < i + n → (∀ j, 0 ≤ j → j < i → ¬ (sLost (sDusks (up N 0 3 j) m) (sDusks (up N 0 3 j) m 0 1) = sLost N (N 0 1))) → Wc K G 20 [some (.ref (a 0)), some (.int (iI m)), none, some (.int (iI i))] [] (wC G a X N M9 P S) := by
      intro n
      induction n with
      | zero =>
        intro i M9 h0 h1 hn; omega
      | succ n ih =>
        intro i M9 h0 h1 hn hp
        refine r_iload_n (pc := 20) C 3 dX8_spare_20 rfl rfl ?_
        refine r_bipush (pc := 21) C dX8_spare_21 (by decide) ?_
        refine r_icmp_gt (pc := 23) (tgt := 64) C dX8_spare_23 (by decide) (by first | omega | exact zand_rng _ _ | exact zor_rng _ _ | exact zxor_rng _ _ | exact BT.r (IT.b (by assumption)) _ _) (by first | omega | exact zand_rng _ _ | exact zor_rng _ _ | exact zxor_rng _ _ | exact BT.r (IT.b (by assumption)) _ _) (fun c23 => ?_) (fun c23 => ?_)
        · refine r_bipush (pc := 64) C dX8_spare_64 (by decide) ?_
          obtain rfl : i = 21 := by omega
          exact r_iret (pc := 66) C hQ dX8_spare_66 rfl (fin_okM (by first | rfl | assumption) (by exact (sFind_no _ (by decide) hp).symm) (by rfl))
        · refine r_aload_n (pc := 26) C 0 dX8_spare_26 rfl rfl ?_
          refine r_get (pc := 27) C 0 0 1 dX8_spare_27 in_X8 rfl rfl (ci := 8) rfl (by decide) tw_144 rfl rfl ?_
          refine r_aload_n (pc := 30) C 0 dX8_spare_30 rfl rfl ?_
          refine r_get (pc := 31) C 0 0 0 dX8_spare_31 in_X8 rfl rfl (ci := 8) rfl (by decide) tw_143 rfl rfl ?_
          refine r_callV (pc := 34) (is := [2, 1]) C YX6_become dX8_spare_34 tw_343 (c_X6_become l G _ _ _ _) 2 0 rfl rfl (ci := 6) rfl rfl rfl (by decide) rfl rfl (Nat.le_of_ble_eq_true rfl) ⟨rfl, rfl, by decide, by decide⟩ (jst_v (C_u2_1 ..) ?_)
          refine r_aload_n (pc := 37) C 0 dX8_spare_37 rfl rfl ?_
          refine r_get (pc := 38) C 0 0 1 dX8_spare_38 in_X8 rfl rfl (ci := 8) rfl (by decide) tw_144 rfl rfl ?_
          refine r_iload_n (pc := 41) C 3 dX8_spare_41 rfl rfl ?_
          refine r_put (pc := 42) C 2 0 11 dX8_spare_42 in_X6 tyX6_ok nmX6 rfl rfl (ci := 6) rfl (by decide) tw_98 rfl rfl (tyX6_ok 11 (by decide)) rfl rfl (Nat.le_of_ble_eq_true rfl) rfl (C_p2_11 ..) ?_
          have hIw := IT_hawk hI (v := i) ⟨h0, by omega⟩
          obtain ⟨hI2, -⟩ := sDusks_p hIw (n := m) (by omega) (by show N 0 4 + m ≤ 1100; omega)
          have hl1 := sLost_r (T := sDusks (up N 0 3 i) m) hI2.D.1
          have hl2 := hI2.D
          have hl3 := sLost_r (T := N) hDD.1
          have hl4 : sLost (up N 0 3 i) (up N 0 3 i 0 1) = sLost N (N 0 1) := rfl
          refine r_aload_n (pc := 45) C 0 dX8_spare_45 rfl rfl ?_
          refine r_get (pc := 46) C 0 0 1 dX8_spare_46 in_X8 rfl rfl (ci := 8) rfl (by decide) tw_144 rfl rfl ?_
          refine r_iload_n (pc := 49) C 1 dX8_spare_49 rfl rfl ?_
          refine r_callV (pc := 50) (is := [2]) C YX6_passDusks dX8_spare_50 tw_595 (c_X6_passDusks l G _ _ _ (by first | assumption | omega | exact zand_rng _ _ | exact zor_rng _ _ | exact zxor_rng _ _ | exact BT.r (IT.b (by assumption)) _ _) (by first | assumption | omega | exact zand_rng _ _ | exact zor_rng _ _ | exact zxor_rng _ _ | exact BT.r (IT.b (by assumption)) _ _) (by show N 0 4 + m ≤ 1100; omega) (by first | assumption | omega | exact zand_rng _ _ | exact zor_rng _ _ | exact zxor_rng _ _ | exact BT.r (IT.b (by assumption)) _ _)) 2 0 rfl rfl (ci := 6) rfl rfl rfl (by decide) rfl rfl (Nat.le_of_ble_eq_true rfl) ⟨rfl, rfl, by decide, by decide⟩ (jst_i (C_u2 ..) ?_)
          refine r_if_ne (pc := 53) (tgt := 58) C dX8_spare_53 (by decide) (by first | omega | exact zand_rng _ _ | exact zor_rng _ _ | exact zxor_rng _ _ | exact BT.r (IT.b (by assumption)) _ _) (fun c53 => ?_) (fun c53 => ?_)
          · refine r_iinc (pc := 58) C dX8_spare_58 rfl ?_
            refine r_goto (pc := 61) (tgt := 20) C dX8_spare_61 (by decide) ?_
            refine Wc.to (ih (i + 1) _ (by omega) (by omega) (by omega) (fun j a c => if e : j = i then by rw [e]; omega else hp j a (by omega))) rfl (lsub_s rfl (lsub_s rfl (lsub_n (lsub_s rfl lsub_0)))) rfl
          · refine r_iload_n (pc := 56) C 3 dX8_spare_56 rfl rfl ?_
            exact r_iret (pc := 57) C hQ dX8_spare_57 rfl (fin_okM (by first | rfl | assumption) (by exact (sFind_is _ h0 hp (show sLost (sDusks (up N 0 3 i) m) (sDusks (up N 0 3 i) m 0 1) = sLost N (N 0 1) by omega) (by omega)).symm) (by rfl))
    refine Wc.to (L20 22 0 M (by omega) (by omega) (by omega) (fun j a c => absurd c (by omega))) rfl (lsub_s rfl (lsub_s rfl (lsub_n (lsub_s rfl lsub_0)))) rfl
  · refine r_aload_n (pc := 12) C 0 dX8_spare_12 rfl rfl ?_
    refine r_iload_n (pc := 13) C 2 dX8_spare_13 rfl rfl ?_
    refine r_callV (pc := 14) (is := [0, 1, 2, 3, 4]) C YX8_refuse dX8_spare_14 tw_185 (c_X8_refuse l G _ _ _ _ _ _ _ (by first | assumption | omega | exact zand_rng _ _ | exact zor_rng _ _ | exact zxor_rng _ _ | exact BT.r (IT.b (by assumption)) _ _)) 0 0 rfl rfl (ci := 8) rfl rfl rfl (by decide) rfl rfl (Nat.le_of_ble_eq_true rfl) ⟨rfl, rfl, by decide, by decide⟩ (jst_i (C_uall ..) ?_)
    exact r_iret (pc := 17) C hQ dX8_spare_17 rfl (fin_noM (by first | rfl | assumption) (by omega) rfl)

set_option maxRecDepth 100000 in
set_option maxHeartbeats 4000000 in
theorem c_X8_bestOpen (l : Launch) (G : GT) (a : Nat → Nat) (X N M P S : Tn) (z m : Int) (hI : IT N) (hX : IX X S) (hk9 : N 0 4 ≤ 999) (gz : -2147483648 ≤ z ∧ z < 2147483648) (gm : -2147483648 ≤ m ∧ m < 2147483648) : Cn l yX8_bestOpen cX8_bestOpen 8 (Option.some .int) ({ frames := 6, cells := 0, slots := 0, locals := 141 }) G [.ref (a 0), .int (iI z), .int (iI m)] (wC G a X N M P S) (aE G a (q_lo N z m 0 40) (v_best N z m) (X) (xrf X (q_lo N z m 0 40)) (N) N P S) := by
  refine Cn_in RX8 [some (.ref (a 0)), some (.int (iI z)), some (.int (iI m)), none, none, none, none, none] (by decide +kernel) rfl rfl rfl (Nat.le_of_ble_eq_true rfl) (fun K C hQ => ?_)
  obtain ⟨x1, s1, x3, s6, x8⟩ := hX
  have hBB := hI.b
  have hLL := hI.L
  have hDD := hI.D
  have hkk := hI.k
  have hz2 := zp2_r (L := N 0 0) (by omega)
  have hoR : ∀ s, 0 ≤ s → s < zp2 (N 0 0) → IT (up N 0 2 s) := fun s h0 h1 => IT_open hI ⟨h0, h1⟩
  refine r_aload_n (pc := 0) C 0 dX8_bestOpen_0 rfl rfl ?_
  refine r_get (pc := 1) C 0 0 0 dX8_bestOpen_1 in_X8 rfl rfl (ci := 8) rfl (by decide) tw_143 rfl rfl ?_
  refine r_iload_n (pc := 4) C 1 dX8_bestOpen_4 rfl rfl ?_
  refine r_callV (pc := 5) (is := [1]) C YX6_hasLoft dX8_bestOpen_5 tw_399 (c_X6_hasLoft l G _ _ _ (by first | assumption | omega | exact zand_rng _ _ | exact zor_rng _ _ | exact zxor_rng _ _ | exact BT.r (IT.b (by assumption)) _ _) (by first | assumption | omega | exact zand_rng _ _ | exact zor_rng _ _ | exact zxor_rng _ _ | exact BT.r (IT.b (by assumption)) _ _)) 1 0 rfl rfl (ci := 6) rfl rfl rfl (by decide) rfl rfl (Nat.le_of_ble_eq_true rfl) ⟨rfl, rfl, by decide, by decide⟩ (jst_i (C_u1 ..) ?_)
  refine r_ifb_eq (pc := 8) (tgt := 21) C dX8_bestOpen_8 (by decide) (fun c8 => ?_) (fun c8 => ?_)
  · refine r_iconst (pc := 21) C dX8_bestOpen_21 ?_
    refine r_istore_n (pc := 22) C 3 dX8_bestOpen_22 rfl (Nat.le_of_ble_eq_true rfl) ?_
    refine r_iload_n (pc := 23) C 3 dX8_bestOpen_23 rfl rfl ?_
    refine r_if_eq (pc := 24) (tgt := 33) C dX8_bestOpen_24 (by decide) (by first | omega | exact zand_rng _ _ | exact zor_rng _ _ | exact zxor_rng _ _ | exact BT.r (IT.b (by assumption)) _ _) (fun c24 => absurd c24 (by omega)) (fun c24 => ?_)
    refine r_aload_n (pc := 27) C 0 dX8_bestOpen_27 rfl rfl ?_
    refine r_iload_n (pc := 28) C 3 dX8_bestOpen_28 rfl rfl ?_
    refine r_callV (pc := 29) (is := [0, 1, 2, 3, 4]) C YX8_refuse dX8_bestOpen_29 tw_185 (c_X8_refuse l G _ _ _ _ _ _ _ (by first | assumption | omega | exact zand_rng _ _ | exact zor_rng _ _ | exact zxor_rng _ _ | exact BT.r (IT.b (by assumption)) _ _)) 0 0 rfl rfl (ci := 8) rfl rfl rfl (by decide) rfl rfl (Nat.le_of_ble_eq_true rfl) ⟨rfl, rfl, by decide, by decide⟩ (jst_i (C_uall ..) ?_)
    exact r_iret (pc := 32) C hQ dX8_bestOpen_32 rfl (fin_noM (by unfold q_lo; (repeat (first | rw [if_pos (by omega)] | rw [if_neg (by omega)])); (try first | rfl | assumption | omega)) (by omega) rfl)
  · refine r_iload_n (pc := 11) C 2 dX8_bestOpen_11 rfl rfl ?_
    refine r_iconst (pc := 12) C dX8_bestOpen_12 ?_
    refine r_bipush (pc := 13) C dX8_bestOpen_13 (by decide) ?_
    refine r_callS (pc := 15) (is := []) C YX8_outside dX8_bestOpen_15 tw_178 (c_X8_outside l G _ _ _ (by first | assumption | omega | exact zand_rng _ _ | exact zor_rng _ _ | exact zxor_rng _ _ | exact BT.r (IT.b (by assumption)) _ _) (by first | assumption | omega | exact zand_rng _ _ | exact zor_rng _ _ | exact zxor_rng _ _ | exact BT.r (IT.b (by assumption)) _ _) (by first | assumption | omega | exact zand_rng _ _ | exact zor_rng _ _ | exact zxor_rng _ _ | exact BT.r (IT.b (by assumption)) _ _)) rfl (by decide) rfl rfl (Nat.le_of_ble_eq_true rfl) ⟨rfl, rfl, by decide, by decide⟩ (jst_i (ups_nil _) ?_)
    have hs15 := sOut_r m 0 40 (by decide)
    refine r_goto (pc := 18) (tgt := 22) C dX8_bestOpen_18 (by decide) ?_
    refine r_istore_n (pc := 22) C 3 dX8_bestOpen_22 rfl (Nat.le_of_ble_eq_true rfl) ?_
    refine r_iload_n (pc := 23) C 3 dX8_bestOpen_23 rfl rfl ?_
    refine r_if_eq (pc := 24) (tgt := 33) C dX8_bestOpen_24 (by decide) (by first | omega | exact zand_rng _ _ | exact zor_rng _ _ | exact zxor_rng _ _ | exact BT.r (IT.b (by assumption)) _ _) (fun c24 => ?_) (fun c24 => ?_)
    · have hfR : ∀ s, 0 ≤ s → s < zp2 (N 0 0) → 0 ≤ sOpenP N z m s ∧ sOpenP N z m s ≤ 64 := fun s h0 h1 => by
        obtain ⟨a1, -⟩ := sDusks_p (hoR s h0 h1) (n := m) (by omega) (by show N 0 4 + m ≤ 1100; omega)
        exact sPurse_r a1 z a1.D.1 (Int.le_refl _)
      refine r_iconst (pc := 33) C dX8_bestOpen_33 ?_
      refine r_istore (pc := 34) C dX8_bestOpen_34 (Nat.le_of_ble_eq_true rfl) ?_
      refine r_iconst (pc := 36) C dX8_bestOpen_36 ?_
      refine r_istore (pc := 37) C dX8_bestOpen_37 (Nat.le_of_ble_eq_true rfl) ?_
      refine r_iconst (pc := 39) C dX8_bestOpen_39 ?_
      refine r_istore (pc := 40) C dX8_bestOpen_40 (Nat.le_of_ble_eq_true rfl) ?_
      have L42 : ∀ (n : Nat) (i : Int) (M9 : Tn), 0 ≤ i → i ≤ zp2 (N 0 0) → zp2 (N 0 0) < i + n → Wc K G 42 [some (.ref (a 0)), some (.int (iI z)), some (.int (iI m)), none, some (.int (iI (sB1 (sOpenP N z m) i))), some (.int (iI (sB2 (sOpenP N z m) i))), some (.int (iI i)), none] [] (wC G a X N M9 P S) := by
        intro n
        induction n with
        | zero =>
          intro i M9 h0 h1 hn; omega
        | succ n ih =>
          intro i M9 h0 h1 hn
          have hb := sBest_r (sOpenP N z m) h0 h1 hfR
          have hb2 := sB_or (sOpenP N z m) i
          refine r_iload (pc := 42) C dX8_bestOpen_42 rfl ?_
          refine r_iconst (pc := 44) C dX8_bestOpen_44 ?_
          refine r_aload_n (pc := 45) C 0 dX8_bestOpen_45 rfl rfl ?_
          refine r_get (pc := 46) C 0 0 0 dX8_bestOpen_46 in_X8 rfl rfl (ci := 8) rfl (by decide) tw_143 rfl rfl ?_
          refine r_get (pc := 49) C 1 0 8 dX8_bestOpen_49 in_X6 rfl rfl (ci := 6) rfl (by decide) tw_92 rfl rfl ?_
          refine r_ishl (pc := 52) C dX8_bestOpen_52 (by omega) ?_
          refine r_icmp_ge (pc := 53) (tgt := 116) C dX8_bestOpen_53 (by decide) (by first | omega | exact zand_rng _ _ | exact zor_rng _ _ | exact zxor_rng _ _ | exact BT.r (IT.b (by assumption)) _ _) (by first | omega | exact zand_rng _ _ | exact zor_rng _ _ | exact zxor_rng _ _ | exact BT.r (IT.b (by assumption)) _ _) (fun c53 => ?_) (fun c53 => ?_)
          · obtain rfl : i = zp2 (N 0 0) := by omega
            refine r_iload (pc := 116) C dX8_bestOpen_116 rfl ?_
            exact r_iret (pc := 118) C hQ dX8_bestOpen_118 rfl (fin_okM (by unfold q_lo; (repeat (first | rw [if_pos (by omega)] | rw [if_neg (by omega)])); (try first | rfl | assumption | omega)) (by unfold v_best; omega) (by rfl))
          · refine r_aload_n (pc := 56) C 0 dX8_bestOpen_56 rfl rfl ?_
            refine r_get (pc := 57) C 0 0 1 dX8_bestOpen_57 in_X8 rfl rfl (ci := 8) rfl (by decide) tw_144 rfl rfl ?_
            refine r_aload_n (pc := 60) C 0 dX8_bestOpen_60 rfl rfl ?_
            refine r_get (pc := 61) C 0 0 0 dX8_bestOpen_61 in_X8 rfl rfl (ci := 8) rfl (by decide) tw_143 rfl rfl ?_
            refine r_callV (pc := 64) (is := [2, 1]) C YX6_become dX8_bestOpen_64 tw_343 (c_X6_become l G _ _ _ _) 2 0 rfl rfl (ci := 6) rfl rfl rfl (by decide) rfl rfl (Nat.le_of_ble_eq_true rfl) ⟨rfl, rfl, by decide, by decide⟩ (jst_v (C_u2_1 ..) ?_)
            refine r_aload_n (pc := 67) C 0 dX8_bestOpen_67 rfl rfl ?_
            refine r_get (pc := 68) C 0 0 1 dX8_bestOpen_68 in_X8 rfl rfl (ci := 8) rfl (by decide) tw_144 rfl rfl ?_
            refine r_iload (pc := 71) C dX8_bestOpen_71 rfl ?_
            refine r_put (pc := 73) C 2 0 10 dX8_bestOpen_73 in_X6 tyX6_ok nmX6 rfl rfl (ci := 6) rfl (by decide) tw_96 rfl rfl (tyX6_ok 10 (by decide)) rfl rfl (Nat.le_of_ble_eq_true rfl) rfl (C_p2_10 ..) ?_
            have hI1 := hoR i h0 (by omega)
            obtain ⟨hI2, -⟩ := sDusks_p hI1 (n := m) (by omega) (by show N 0 4 + m ≤ 1100; omega)
            have hp1 := hfR i h0 (by omega)
            have hpq : sOpenP N z m i = sPurse (sDusks (up N 0 2 i) m) z (sDusks (up N 0 2 i) m 0 1) := rfl
            refine r_aload_n (pc := 76) C 0 dX8_bestOpen_76 rfl rfl ?_
            refine r_get (pc := 77) C 0 0 1 dX8_bestOpen_77 in_X8 rfl rfl (ci := 8) rfl (by decide) tw_144 rfl rfl ?_
            refine r_iload_n (pc := 80) C 2 dX8_bestOpen_80 rfl rfl ?_
            refine r_callV (pc := 81) (is := [2]) C YX6_passDusks dX8_bestOpen_81 tw_595 (c_X6_passDusks l G _ _ _ (by first | assumption | omega | exact zand_rng _ _ | exact zor_rng _ _ | exact zxor_rng _ _ | exact BT.r (IT.b (by assumption)) _ _) (by first | assumption | omega | exact zand_rng _ _ | exact zor_rng _ _ | exact zxor_rng _ _ | exact BT.r (IT.b (by assumption)) _ _) (by show N 0 4 + m ≤ 1100; omega) (by first | assumption | omega | exact zand_rng _ _ | exact zor_rng _ _ | exact zxor_rng _ _ | exact BT.r (IT.b (by assumption)) _ _)) 2 0 rfl rfl (ci := 6) rfl rfl rfl (by decide) rfl rfl (Nat.le_of_ble_eq_true rfl) ⟨rfl, rfl, by decide, by decide⟩ (jst_i (C_u2 ..) ?_)
            refine r_pop (pc := 84) C dX8_bestOpen_84 rfl ?_
            refine r_aload_n (pc := 85) C 0 dX8_bestOpen_85 rfl rfl ?_
            refine r_get (pc := 86) C 0 0 1 dX8_bestOpen_86 in_X8 rfl rfl (ci := 8) rfl (by decide) tw_144 rfl rfl ?_
            refine r_iload_n (pc := 89) C 1 dX8_bestOpen_89 rfl rfl ?_
            refine r_callV (pc := 90) (is := [2]) C YX6_purseOf dX8_bestOpen_90 tw_407 (c_X6_purseOf l G _ _ _ (by first | assumption | omega | exact zand_rng _ _ | exact zor_rng _ _ | exact zxor_rng _ _ | exact BT.r (IT.b (by assumption)) _ _) (by first | assumption | omega | exact zand_rng _ _ | exact zor_rng _ _ | exact zxor_rng _ _ | exact BT.r (IT.b (by assumption)) _ _)) 2 0 rfl rfl (ci := 6) rfl rfl rfl (by decide) rfl rfl (Nat.le_of_ble_eq_true rfl) ⟨rfl, rfl, by decide, by decide⟩ (jst_i (C_u2 ..) ?_)
            refine r_istore (pc := 93) C dX8_bestOpen_93 (Nat.le_of_ble_eq_true rfl) ?_
            refine r_iload (pc := 95) C dX8_bestOpen_95 rfl ?_
            refine r_iload (pc := 97) C dX8_bestOpen_97 rfl ?_
            refine r_icmp_le (pc := 99) (tgt := 110) C dX8_bestOpen_99 (by decide) (by first | omega | exact zand_rng _ _ | exact zor_rng _ _ | exact zxor_rng _ _ | exact BT.r (IT.b (by assumption)) _ _) (by first | omega | exact zand_rng _ _ | exact zor_rng _ _ | exact zxor_rng _ _ | exact BT.r (IT.b (by assumption)) _ _) (fun c99 => ?_) (fun c99 => ?_)
            · refine r_iinc (pc := 110) C dX8_bestOpen_110 rfl ?_
              refine r_goto (pc := 113) (tgt := 42) C dX8_bestOpen_113 (by decide) ?_
              first | refine Wc.to (ih (i + 1) _ (by omega) (by omega) (by omega)) rfl (lsub_s rfl (lsub_s rfl (lsub_s rfl (lsub_n (lsub_s (by rw [(sB_y h0 (by omega)).1]) (lsub_s (by rw [(sB_y h0 (by omega)).2]; try rfl) (lsub_s rfl (lsub_n lsub_0)))))))) rfl | refine Wc.to (ih (i + 1) _ (by omega) (by omega) (by omega)) rfl (lsub_s rfl (lsub_s rfl (lsub_s rfl (lsub_n (lsub_s (by rw [(sB_n h0 (by omega) (by omega) (by omega)).1]) (lsub_s (by rw [(sB_n h0 (by omega) (by omega) (by omega)).2]) (lsub_s rfl (lsub_n lsub_0)))))))) rfl
            · refine r_iload (pc := 102) C dX8_bestOpen_102 rfl ?_
              refine r_istore (pc := 104) C dX8_bestOpen_104 (Nat.le_of_ble_eq_true rfl) ?_
              refine r_iload (pc := 106) C dX8_bestOpen_106 rfl ?_
              refine r_istore (pc := 108) C dX8_bestOpen_108 (Nat.le_of_ble_eq_true rfl) ?_
              refine r_iinc (pc := 110) C dX8_bestOpen_110 rfl ?_
              refine r_goto (pc := 113) (tgt := 42) C dX8_bestOpen_113 (by decide) ?_
              first | refine Wc.to (ih (i + 1) _ (by omega) (by omega) (by omega)) rfl (lsub_s rfl (lsub_s rfl (lsub_s rfl (lsub_n (lsub_s (by rw [(sB_y h0 (by omega)).1]) (lsub_s (by rw [(sB_y h0 (by omega)).2]; try rfl) (lsub_s rfl (lsub_n lsub_0)))))))) rfl | refine Wc.to (ih (i + 1) _ (by omega) (by omega) (by omega)) rfl (lsub_s rfl (lsub_s rfl (lsub_s rfl (lsub_n (lsub_s (by rw [(sB_n h0 (by omega) (by omega) (by omega)).1]) (lsub_s (by rw [(sB_n h0 (by omega) (by omega) (by omega)).2]) (lsub_s rfl (lsub_n lsub_0)))))))) rfl
      refine Wc.to (L42 ((zp2 (N 0 0)).toNat + 1) 0 M (by omega) (by omega) (by omega)) rfl (lsub_s rfl (lsub_s rfl (lsub_s rfl (lsub_n (lsub_s rfl (lsub_s rfl (lsub_s rfl (lsub_n lsub_0)))))))) rfl
    · refine r_aload_n (pc := 27) C 0 dX8_bestOpen_27 rfl rfl ?_
      refine r_iload_n (pc := 28) C 3 dX8_bestOpen_28 rfl rfl ?_
      refine r_callV (pc := 29) (is := [0, 1, 2, 3, 4]) C YX8_refuse dX8_bestOpen_29 tw_185 (c_X8_refuse l G _ _ _ _ _ _ _ (by first | assumption | omega | exact zand_rng _ _ | exact zor_rng _ _ | exact zxor_rng _ _ | exact BT.r (IT.b (by assumption)) _ _)) 0 0 rfl rfl (ci := 8) rfl rfl rfl (by decide) rfl rfl (Nat.le_of_ble_eq_true rfl) ⟨rfl, rfl, by decide, by decide⟩ (jst_i (C_uall ..) ?_)
      exact r_iret (pc := 32) C hQ dX8_bestOpen_32 rfl (fin_noM (by unfold q_lo; (repeat (first | rw [if_pos (by omega)] | rw [if_neg (by omega)])); (try first | rfl | assumption | omega)) (by omega) rfl)

set_option maxRecDepth 100000 in
set_option maxHeartbeats 4000000 in
theorem c_X8_nextSeed (l : Launch) (G : GT) (z : Int)  : Cn l yX8_nextSeed cX8_nextSeed 1 (Option.some .int) ({ frames := 0, cells := 0, slots := 0, locals := 0 }) G [.int (iI z)] (w0) (jst (some (.int (iI (z * 1664525 + 1013904223)))) (w0)) := by
  refine Cn_in RX8 [some (.int (iI z))] (by decide +kernel) rfl rfl rfl (Nat.le_of_ble_eq_true rfl) (fun K C hQ => ?_)
  refine r_iload_n (pc := 0) C 0 dX8_nextSeed_0 rfl rfl ?_
  refine r_ldc (pc := 1) C dX8_nextSeed_1 (n := 1664525) tw_707 (by decide) ?_
  refine r_imul (pc := 3) C dX8_nextSeed_3 ?_
  refine r_ldc (pc := 4) C dX8_nextSeed_4 (n := 1013904223) tw_708 (by decide) ?_
  refine r_iadd (pc := 6) C dX8_nextSeed_6 ?_
  exact r_iret (pc := 7) C hQ dX8_nextSeed_7 rfl (jst_ri (by rfl) rfl)

set_option maxRecDepth 100000 in
set_option maxHeartbeats 4000000 in
theorem c_X8_drawn (l : Launch) (G : GT) (z w : Int) (hw : 0 < w ∧ w < 2147483648) : Cn l yX8_drawn cX8_drawn 2 (Option.some .int) ({ frames := 0, cells := 0, slots := 0, locals := 0 }) G [.int (iI z), .int (iI w)] (w0) (jst (some (.int (iI (zand z 2147483647 / 256 % w)))) (w0)) := by
  refine Cn_in RX8 [some (.int (iI z)), some (.int (iI w))] (by decide +kernel) rfl rfl rfl (Nat.le_of_ble_eq_true rfl) (fun K C hQ => ?_)
  refine r_iload_n (pc := 0) C 1 dX8_drawn_0 rfl rfl ?_
  refine r_if_le (pc := 1) (tgt := 17) C dX8_drawn_1 (by decide) (by first | omega | exact zand_rng _ _ | exact zor_rng _ _ | exact zxor_rng _ _ | exact BT.r (IT.b (by assumption)) _ _) (fun c1 => absurd c1 (by omega)) (fun c1 => ?_)
  refine r_iload_n (pc := 4) C 0 dX8_drawn_4 rfl rfl ?_
  refine r_ldc (pc := 5) C dX8_drawn_5 (n := 2147483647) tw_712 (by decide) ?_
  refine r_iand (pc := 7) C dX8_drawn_7 ?_
  refine r_sipush (pc := 8) C dX8_drawn_8 (by decide) ?_
  refine r_idiv (pc := 11) C dX8_drawn_11 (by first | omega | exact zand_rng _ _ | (rw [zand_7f]; omega)) (by first | omega | exact zand_rng _ _ | (rw [zand_7f]; omega)) ?_
  refine r_iload_n (pc := 12) C 1 dX8_drawn_12 rfl rfl ?_
  refine r_irem (pc := 13) C dX8_drawn_13 (by first | omega | exact zand_rng _ _ | (rw [zand_7f]; omega)) (by first | omega | exact zand_rng _ _ | (rw [zand_7f]; omega)) ?_
  refine r_goto (pc := 14) (tgt := 18) C dX8_drawn_14 (by decide) ?_
  exact r_iret (pc := 18) C hQ dX8_drawn_18 rfl (jst_ri (by rfl) rfl)

set_option maxRecDepth 100000 in
set_option maxHeartbeats 4000000 in
theorem c_X8_seeds (l : Launch) (G : GT) (a : Nat → Nat) (X N M P S : Tn) (m z q : Int) (hI : IT N) (hX : IX X S) (hk9 : N 0 4 ≤ 999) (gm : -2147483648 ≤ m ∧ m < 2147483648) (gz : -2147483648 ≤ z ∧ z < 2147483648) (gq : -2147483648 ≤ q ∧ q < 2147483648) : Cn l yX8_seeds cX8_seeds 7 (Option.some .int) ({ frames := 6, cells := 0, slots := 0, locals := 140 }) G [.ref (a 0), .int (iI m), .int (iI z), .int (iI q)] (wC G a X N M P S) (aE G a (q_lo N q m 1 30) (v_seeds N m z q) (X) (xrf X (q_lo N q m 1 30)) (N) N P S) := by
  refine Cn_in RX8 [some (.ref (a 0)), some (.int (iI m)), some (.int (iI z)), some (.int (iI q)), none, none, none] (by decide +kernel) rfl rfl rfl (Nat.le_of_ble_eq_true rfl) (fun K C hQ => ?_)
  obtain ⟨x1, s1, x3, s6, x8⟩ := hX
  have hBB := hI.b
  have hLL := hI.L
  have hDD := hI.D
  have hkk := hI.k
  have hz2 := zp2_r (L := N 0 0) (by omega)
  refine r_aload_n (pc := 0) C 0 dX8_seeds_0 rfl rfl ?_
  refine r_get (pc := 1) C 0 0 0 dX8_seeds_1 in_X8 rfl rfl (ci := 8) rfl (by decide) tw_143 rfl rfl ?_
  refine r_iload_n (pc := 4) C 3 dX8_seeds_4 rfl rfl ?_
  refine r_callV (pc := 5) (is := [1]) C YX6_hasLoft dX8_seeds_5 tw_399 (c_X6_hasLoft l G _ _ _ (by first | assumption | omega | exact zand_rng _ _ | exact zor_rng _ _ | exact zxor_rng _ _ | exact BT.r (IT.b (by assumption)) _ _) (by first | assumption | omega | exact zand_rng _ _ | exact zor_rng _ _ | exact zxor_rng _ _ | exact BT.r (IT.b (by assumption)) _ _)) 1 0 rfl rfl (ci := 6) rfl rfl rfl (by decide) rfl rfl (Nat.le_of_ble_eq_true rfl) ⟨rfl, rfl, by decide, by decide⟩ (jst_i (C_u1 ..) ?_)
  refine r_ifb_eq (pc := 8) (tgt := 21) C dX8_seeds_8 (by decide) (fun c8 => ?_) (fun c8 => ?_)
  · refine r_iconst (pc := 21) C dX8_seeds_21 ?_
    refine r_istore (pc := 22) C dX8_seeds_22 (Nat.le_of_ble_eq_true rfl) ?_
    refine r_iload (pc := 24) C dX8_seeds_24 rfl ?_
    refine r_if_eq (pc := 26) (tgt := 36) C dX8_seeds_26 (by decide) (by first | omega | exact BT.r (IT.b hI) _ _ | exact BT.r (IT.b hU) _ _) (fun c26 => absurd c26 (by omega)) (fun c26 => ?_)
    refine r_aload_n (pc := 29) C 0 dX8_seeds_29 rfl rfl ?_
    refine r_iload (pc := 30) C dX8_seeds_30 rfl ?_
    refine r_callV (pc := 32) (is := [0, 1, 2, 3, 4]) C YX8_refuse dX8_seeds_32 tw_185 (c_X8_refuse l G _ _ _ _ _ _ _ (by first | assumption | omega | exact zand_rng _ _ | exact zor_rng _ _ | exact zxor_rng _ _ | exact BT.r (IT.b (by assumption)) _ _)) 0 0 rfl rfl (ci := 8) rfl rfl rfl (by decide) rfl rfl (Nat.le_of_ble_eq_true rfl) ⟨rfl, rfl, by decide, by decide⟩ (jst_i (C_uall ..) ?_)
    exact r_iret (pc := 35) C hQ dX8_seeds_35 rfl (fin_noM (by unfold q_lo; (repeat (first | rw [if_pos (by omega)] | rw [if_neg (by omega)])); (try first | rfl | assumption | omega)) (by omega) rfl)
  · refine r_iload_n (pc := 11) C 1 dX8_seeds_11 rfl rfl ?_
    refine r_iconst (pc := 12) C dX8_seeds_12 ?_
    refine r_bipush (pc := 13) C dX8_seeds_13 (by decide) ?_
    refine r_callS (pc := 15) (is := []) C YX8_outside dX8_seeds_15 tw_178 (c_X8_outside l G _ _ _ (by first | assumption | omega | exact zand_rng _ _ | exact zor_rng _ _ | exact zxor_rng _ _ | exact BT.r (IT.b (by assumption)) _ _) (by first | assumption | omega | exact zand_rng _ _ | exact zor_rng _ _ | exact zxor_rng _ _ | exact BT.r (IT.b (by assumption)) _ _) (by first | assumption | omega | exact zand_rng _ _ | exact zor_rng _ _ | exact zxor_rng _ _ | exact BT.r (IT.b (by assumption)) _ _)) rfl (by decide) rfl rfl (Nat.le_of_ble_eq_true rfl) ⟨rfl, rfl, by decide, by decide⟩ (jst_i (ups_nil _) ?_)
    have hs15 := sOut_r m 1 30 (by decide)
    refine r_goto (pc := 18) (tgt := 22) C dX8_seeds_18 (by decide) ?_
    refine r_istore (pc := 22) C dX8_seeds_22 (Nat.le_of_ble_eq_true rfl) ?_
    refine r_iload (pc := 24) C dX8_seeds_24 rfl ?_
    refine r_if_eq (pc := 26) (tgt := 36) C dX8_seeds_26 (by decide) (by first | omega | exact BT.r (IT.b hI) _ _ | exact BT.r (IT.b hU) _ _) (fun c26 => ?_) (fun c26 => ?_)
    · refine r_aload_n (pc := 36) C 0 dX8_seeds_36 rfl rfl ?_
      refine r_get (pc := 37) C 0 0 1 dX8_seeds_37 in_X8 rfl rfl (ci := 8) rfl (by decide) tw_144 rfl rfl ?_
      refine r_aload_n (pc := 40) C 0 dX8_seeds_40 rfl rfl ?_
      refine r_get (pc := 41) C 0 0 0 dX8_seeds_41 in_X8 rfl rfl (ci := 8) rfl (by decide) tw_143 rfl rfl ?_
      refine r_callV (pc := 44) (is := [2, 1]) C YX6_become dX8_seeds_44 tw_343 (c_X6_become l G _ _ _ _) 2 0 rfl rfl (ci := 6) rfl rfl rfl (by decide) rfl rfl (Nat.le_of_ble_eq_true rfl) ⟨rfl, rfl, by decide, by decide⟩ (jst_v (C_u2_1 ..) ?_)
      refine r_iload_n (pc := 47) C 2 dX8_seeds_47 rfl rfl ?_
      refine r_istore (pc := 48) C dX8_seeds_48 (Nat.le_of_ble_eq_true rfl) ?_
      refine r_iconst (pc := 50) C dX8_seeds_50 ?_
      refine r_istore (pc := 51) C dX8_seeds_51 (Nat.le_of_ble_eq_true rfl) ?_
      have L53 : ∀ (n : Nat) (i : Int), 0 ≤ i → i ≤ m → m < i + n → Wc K G 53 [some (.ref (a 0)), some (.int (iI m)), none, some (.int (iI q)), none, some (.int (iI (sSeed N z i).1)), some (.int (iI i))] [] (wC G a X N (sSeed N z i).2 P S) := by
        intro n
        induction n with
        | zero =>
          intro i h0 h1 hn; omega
        | succ n ih =>
          intro i h0 h1 hn 
          obtain ⟨hU, hU0, hU4, hUD⟩ := sSeed_p hI z h0 (by omega)
          have hdr := sDraw_r hU ((sSeed N z i).1 * 1664525 + 1013904223)
          refine r_iload (pc := 53) C dX8_seeds_53 rfl ?_
          refine r_iload_n (pc := 55) C 1 dX8_seeds_55 rfl rfl ?_
          refine r_icmp_ge (pc := 56) (tgt := 101) C dX8_seeds_56 (by decide) (by first | omega | exact BT.r (IT.b hI) _ _ | exact BT.r (IT.b hU) _ _) (by first | omega | exact BT.r (IT.b hI) _ _ | exact BT.r (IT.b hU) _ _) (fun c56 => ?_) (fun c56 => ?_)
          · obtain rfl : m = i := by omega
            refine r_aload_n (pc := 101) C 0 dX8_seeds_101 rfl rfl ?_
            refine r_get (pc := 102) C 0 0 1 dX8_seeds_102 in_X8 rfl rfl (ci := 8) rfl (by decide) tw_144 rfl rfl ?_
            refine r_iload_n (pc := 105) C 3 dX8_seeds_105 rfl rfl ?_
            refine r_callV (pc := 106) (is := [2]) C YX6_purseOf dX8_seeds_106 tw_407 (c_X6_purseOf l G _ _ _ (by first | assumption | omega | exact zand_rng _ _ | exact zor_rng _ _ | exact zxor_rng _ _ | exact BT.r (IT.b (by assumption)) _ _) (by first | assumption | omega | exact zand_rng _ _ | exact zor_rng _ _ | exact zxor_rng _ _ | exact BT.r (IT.b (by assumption)) _ _)) 2 0 rfl rfl (ci := 6) rfl rfl rfl (by decide) rfl rfl (Nat.le_of_ble_eq_true rfl) ⟨rfl, rfl, by decide, by decide⟩ (jst_i (C_u2 ..) ?_)
            exact r_iret (pc := 109) C hQ dX8_seeds_109 rfl (fin_okM (by unfold q_lo; (repeat (first | rw [if_pos (by omega)] | rw [if_neg (by omega)])); (try first | rfl | assumption | omega)) (by rfl) (by rfl))
          · refine r_iload (pc := 59) C dX8_seeds_59 rfl ?_
            refine r_callS (pc := 61) (is := []) C YX8_nextSeed dX8_seeds_61 tw_704 (c_X8_nextSeed l G _) rfl (by decide) rfl rfl (Nat.le_of_ble_eq_true rfl) ⟨rfl, rfl, by decide, by decide⟩ (jst_i (ups_nil _) ?_)
            refine r_istore (pc := 64) C dX8_seeds_64 (Nat.le_of_ble_eq_true rfl) ?_
            refine r_aload_n (pc := 66) C 0 dX8_seeds_66 rfl rfl ?_
            refine r_get (pc := 67) C 0 0 1 dX8_seeds_67 in_X8 rfl rfl (ci := 8) rfl (by decide) tw_144 rfl rfl ?_
            refine r_iload (pc := 70) C dX8_seeds_70 rfl ?_
            refine r_iconst (pc := 72) C dX8_seeds_72 ?_
            refine r_aload_n (pc := 73) C 0 dX8_seeds_73 rfl rfl ?_
            refine r_get (pc := 74) C 0 0 0 dX8_seeds_74 in_X8 rfl rfl (ci := 8) rfl (by decide) tw_143 rfl rfl ?_
            refine r_get (pc := 77) C 1 0 8 dX8_seeds_77 in_X6 rfl rfl (ci := 6) rfl (by decide) tw_92 rfl rfl ?_
            refine r_ishl (pc := 80) C dX8_seeds_80 (by omega) ?_
            refine r_callS (pc := 81) (is := []) C YX8_drawn dX8_seeds_81 tw_709 (c_X8_drawn l G _ _ (by first | assumption | omega | exact zand_rng _ _ | exact zor_rng _ _ | exact zxor_rng _ _ | exact BT.r (IT.b (by assumption)) _ _)) rfl (by decide) rfl rfl (Nat.le_of_ble_eq_true rfl) ⟨rfl, rfl, by decide, by decide⟩ (jst_i (ups_nil _) ?_)
            refine r_put (pc := 84) C 2 0 10 dX8_seeds_84 in_X6 tyX6_ok nmX6 rfl rfl (ci := 6) rfl (by decide) tw_96 rfl rfl (tyX6_ok 10 (by decide)) rfl rfl (Nat.le_of_ble_eq_true rfl) rfl (C_p2_10 ..) ?_
            refine Wc.eq (gs' := wC G a X N (up (sSeed N z i).2 0 2 (sDraw (sSeed N z i).2 ((sSeed N z i).1 * 1664525 + 1013904223))) P S) ?_ rfl rfl rfl (by unfold sDraw; rw [Int.one_mul, hU0])
            refine r_aload_n (pc := 87) C 0 dX8_seeds_87 rfl rfl ?_
            refine r_get (pc := 88) C 0 0 1 dX8_seeds_88 in_X8 rfl rfl (ci := 8) rfl (by decide) tw_144 rfl rfl ?_
            refine r_callV (pc := 91) (is := [2]) C YX6_passDusk dX8_seeds_91 tw_543 (c_X6_passDusk l G _ _ (IT_open hU hdr) (by show (sSeed N z i).2 0 4 < 1100; omega)) 2 0 rfl rfl (ci := 6) rfl rfl rfl (by decide) rfl rfl (Nat.le_of_ble_eq_true rfl) ⟨rfl, rfl, by decide, by decide⟩ (jst_i (C_u2 ..) ?_)
            refine r_pop (pc := 94) C dX8_seeds_94 rfl ?_
            refine r_iinc (pc := 95) C dX8_seeds_95 rfl ?_
            refine r_goto (pc := 98) (tgt := 53) C dX8_seeds_98 (by decide) ?_
            refine Wc.to (ih (i + 1) (by omega) (by omega) (by omega) ) rfl (lsub_s (by first | rfl | (rw [sSeed_s N z h0])) (lsub_s (by first | rfl | (rw [sSeed_s N z h0])) (lsub_n (lsub_s (by first | rfl | (rw [sSeed_s N z h0])) (lsub_n (lsub_s (by first | rfl | (rw [sSeed_s N z h0])) (lsub_s (by first | rfl | (rw [sSeed_s N z h0])) lsub_0))))))) (by rw [sSeed_s N z h0])
      refine Wc.to (L53 ((m - (0)).toNat + 1) (0) (by omega) (by omega) (by omega) ) rfl (lsub_s rfl (lsub_s rfl (lsub_n (lsub_s rfl (lsub_n (lsub_s rfl (lsub_s rfl lsub_0))))))) (by rfl)
    · refine r_aload_n (pc := 29) C 0 dX8_seeds_29 rfl rfl ?_
      refine r_iload (pc := 30) C dX8_seeds_30 rfl ?_
      refine r_callV (pc := 32) (is := [0, 1, 2, 3, 4]) C YX8_refuse dX8_seeds_32 tw_185 (c_X8_refuse l G _ _ _ _ _ _ _ (by first | assumption | omega | exact zand_rng _ _ | exact zor_rng _ _ | exact zxor_rng _ _ | exact BT.r (IT.b (by assumption)) _ _)) 0 0 rfl rfl (ci := 8) rfl rfl rfl (by decide) rfl rfl (Nat.le_of_ble_eq_true rfl) ⟨rfl, rfl, by decide, by decide⟩ (jst_i (C_uall ..) ?_)
      exact r_iret (pc := 35) C hQ dX8_seeds_35 rfl (fin_noM (by unfold q_lo; (repeat (first | rw [if_pos (by omega)] | rw [if_neg (by omega)])); (try first | rfl | assumption | omega)) (by omega) rfl)

set_option maxRecDepth 100000 in
set_option maxHeartbeats 4000000 in
theorem c_X8_sameAsRow1 (l : Launch) (G : GT) (a : Nat → Nat) (X N M P S : Tn) (m : Int) (hI : IT N) (x8 : ∀ j, 0 ≤ X 1 j ∧ X 1 j ≤ 9) (hm : 0 ≤ m ∧ m ≤ 8) : Cn l yX8_sameAsRow cX8_sameAsRow 4 (Option.some .int) ({ frames := 0, cells := 0, slots := 0, locals := 0 }) G [.ref (a 0), .ref (aN a 0), .int (iI m)] (wC G a X N M P S) (jst (some (.int (iI (sSm (X 1) N m)))) (wC G a X N M P S)) := by
  refine Cn_in RX8 [some (.ref (a 0)), some (.ref (aN a 0)), some (.int (iI m)), none] (by decide +kernel) rfl rfl rfl (Nat.le_of_ble_eq_true rfl) (fun K C hQ => ?_)
  have hBB := hI.b
  have hDD := hI.D
  refine r_iconst (pc := 0) C dX8_sameAsRow_0 ?_
  refine r_istore_n (pc := 1) C 3 dX8_sameAsRow_1 rfl (Nat.le_of_ble_eq_true rfl) ?_
  have L2 : ∀ (n : Nat) (i : Int), 0 ≤ i → i ≤ m → m < i + n → (∀ j, 0 ≤ j → j < i → X 1 j = N 6 j) → Wc K G 2 [some (.ref (a 0)), some (.ref (a 5)), some (.int (iI m)), some (.int (iI i))] [] (wC G a X N M P S) := by
    intro n
    induction n with
    | zero =>
      intro i h0 h1 hn; omega
    | succ n ih =>
      intro i h0 h1 hn hp
      have hx8 := x8 i
      refine r_iload_n (pc := 2) C 3 dX8_sameAsRow_2 rfl rfl ?_
      refine r_iload_n (pc := 3) C 2 dX8_sameAsRow_3 rfl rfl ?_
      refine r_icmp_ge (pc := 4) (tgt := 37) C dX8_sameAsRow_4 (by decide) (by first | omega | exact zand_rng _ _ | exact zor_rng _ _ | exact zxor_rng _ _ | exact BT.r (IT.b (by assumption)) _ _) (by first | omega | exact zand_rng _ _ | exact zor_rng _ _ | exact zxor_rng _ _ | exact BT.r (IT.b (by assumption)) _ _) (fun c4 => ?_) (fun c4 => ?_)
      · refine r_iload_n (pc := 37) C 3 dX8_sameAsRow_37 rfl rfl ?_
        exact r_iret (pc := 38) C hQ dX8_sameAsRow_38 rfl (jst_ri (by first | exact (sSm_n h0 (by omega) hp (by omega)).symm | (rw [show m = i by omega]; exact (sSm_y h0 hp).symm)) rfl)
      · refine r_iload_n (pc := 7) C 3 dX8_sameAsRow_7 rfl rfl ?_
        refine r_aload_n (pc := 8) C 0 dX8_sameAsRow_8 rfl rfl ?_
        refine r_get (pc := 9) C 0 0 4 dX8_sameAsRow_9 in_X8 rfl rfl (ci := 8) rfl (by decide) tw_147 rfl rfl ?_
        refine r_ilen (pc := 12) C 0 1 dX8_sameAsRow_12 rfl rfl ?_
        refine r_icmp_ge (pc := 13) (tgt := 37) C dX8_sameAsRow_13 (by decide) (by first | omega | exact zand_rng _ _ | exact zor_rng _ _ | exact zxor_rng _ _ | exact BT.r (IT.b (by assumption)) _ _) (by first | omega | exact zand_rng _ _ | exact zor_rng _ _ | exact zxor_rng _ _ | exact BT.r (IT.b (by assumption)) _ _) (fun c13 => absurd c13 (by omega)) (fun c13 => ?_)
        refine r_aload_n (pc := 16) C 0 dX8_sameAsRow_16 rfl rfl ?_
        refine r_get (pc := 17) C 0 0 4 dX8_sameAsRow_17 in_X8 rfl rfl (ci := 8) rfl (by decide) tw_147 rfl rfl ?_
        refine r_iload_n (pc := 20) C 3 dX8_sameAsRow_20 rfl rfl ?_
        refine r_iaload (pc := 21) C 0 1 dX8_sameAsRow_21 rfl rfl (by decide) (by omega) ?_
        refine r_aload_n (pc := 22) C 1 dX8_sameAsRow_22 rfl rfl ?_
        refine r_get (pc := 23) C 1 0 6 dX8_sameAsRow_23 in_X6 rfl rfl (ci := 6) rfl (by decide) tw_88 rfl rfl ?_
        refine r_iload_n (pc := 26) C 3 dX8_sameAsRow_26 rfl rfl ?_
        refine r_iaload (pc := 27) C 1 7 dX8_sameAsRow_27 rfl rfl (by decide) (by omega) ?_
        refine r_icmp_ne (pc := 28) (tgt := 37) C dX8_sameAsRow_28 (by decide) (by first | omega | exact zand_rng _ _ | exact zor_rng _ _ | exact zxor_rng _ _ | exact BT.r (IT.b (by assumption)) _ _) (by first | omega | exact zand_rng _ _ | exact zor_rng _ _ | exact zxor_rng _ _ | exact BT.r (IT.b (by assumption)) _ _) (fun c28 => ?_) (fun c28 => ?_)
        · refine r_iload_n (pc := 37) C 3 dX8_sameAsRow_37 rfl rfl ?_
          exact r_iret (pc := 38) C hQ dX8_sameAsRow_38 rfl (jst_ri (by first | exact (sSm_n h0 (by omega) hp (by omega)).symm | (rw [show m = i by omega]; exact (sSm_y h0 hp).symm)) rfl)
        · refine r_iinc (pc := 31) C dX8_sameAsRow_31 rfl ?_
          refine r_goto (pc := 34) (tgt := 2) C dX8_sameAsRow_34 (by decide) ?_
          refine Wc.to (ih (i + 1) (by omega) (by omega) (by omega) (fun j a c => if e : j = i then by rw [e]; omega else hp j a (by omega))) rfl (lsub_s rfl (lsub_s rfl (lsub_s rfl (lsub_s rfl lsub_0)))) (by rfl)
  refine Wc.to (L2 ((m - (0)).toNat + 1) (0) (by omega) (by omega) (by omega) (fun j a c => absurd c (by omega))) rfl (lsub_s rfl (lsub_s rfl (lsub_s rfl (lsub_s rfl lsub_0)))) (by rfl)

set_option maxRecDepth 100000 in
set_option maxHeartbeats 4000000 in
theorem c_X8_sameAsRow2 (l : Launch) (G : GT) (a : Nat → Nat) (X N M P S : Tn) (m : Int) (hI : IT M) (x8 : ∀ j, 0 ≤ X 1 j ∧ X 1 j ≤ 9) (hm : 0 ≤ m ∧ m ≤ 8) : Cn l yX8_sameAsRow cX8_sameAsRow 4 (Option.some .int) ({ frames := 0, cells := 0, slots := 0, locals := 0 }) G [.ref (a 0), .ref (aM a 0), .int (iI m)] (wC G a X N M P S) (jst (some (.int (iI (sSm (X 1) M m)))) (wC G a X N M P S)) := by
  refine Cn_in RX8 [some (.ref (a 0)), some (.ref (aM a 0)), some (.int (iI m)), none] (by decide +kernel) rfl rfl rfl (Nat.le_of_ble_eq_true rfl) (fun K C hQ => ?_)
  have hBB := hI.b
  have hDD := hI.D
  refine r_iconst (pc := 0) C dX8_sameAsRow_0 ?_
  refine r_istore_n (pc := 1) C 3 dX8_sameAsRow_1 rfl (Nat.le_of_ble_eq_true rfl) ?_
  have L2 : ∀ (n : Nat) (i : Int), 0 ≤ i → i ≤ m → m < i + n → (∀ j, 0 ≤ j → j < i → X 1 j = M 6 j) → Wc K G 2 [some (.ref (a 0)), some (.ref (a 20)), some (.int (iI m)), some (.int (iI i))] [] (wC G a X N M P S) := by
    intro n
    induction n with
    | zero =>
      intro i h0 h1 hn; omega
    | succ n ih =>
      intro i h0 h1 hn hp
      have hx8 := x8 i
      refine r_iload_n (pc := 2) C 3 dX8_sameAsRow_2 rfl rfl ?_
      refine r_iload_n (pc := 3) C 2 dX8_sameAsRow_3 rfl rfl ?_
      refine r_icmp_ge (pc := 4) (tgt := 37) C dX8_sameAsRow_4 (by decide) (by first | omega | exact zand_rng _ _ | exact zor_rng _ _ | exact zxor_rng _ _ | exact BT.r (IT.b (by assumption)) _ _) (by first | omega | exact zand_rng _ _ | exact zor_rng _ _ | exact zxor_rng _ _ | exact BT.r (IT.b (by assumption)) _ _) (fun c4 => ?_) (fun c4 => ?_)
      · refine r_iload_n (pc := 37) C 3 dX8_sameAsRow_37 rfl rfl ?_
        exact r_iret (pc := 38) C hQ dX8_sameAsRow_38 rfl (jst_ri (by first | exact (sSm_n h0 (by omega) hp (by omega)).symm | (rw [show m = i by omega]; exact (sSm_y h0 hp).symm)) rfl)
      · refine r_iload_n (pc := 7) C 3 dX8_sameAsRow_7 rfl rfl ?_
        refine r_aload_n (pc := 8) C 0 dX8_sameAsRow_8 rfl rfl ?_
        refine r_get (pc := 9) C 0 0 4 dX8_sameAsRow_9 in_X8 rfl rfl (ci := 8) rfl (by decide) tw_147 rfl rfl ?_
        refine r_ilen (pc := 12) C 0 1 dX8_sameAsRow_12 rfl rfl ?_
        refine r_icmp_ge (pc := 13) (tgt := 37) C dX8_sameAsRow_13 (by decide) (by first | omega | exact zand_rng _ _ | exact zor_rng _ _ | exact zxor_rng _ _ | exact BT.r (IT.b (by assumption)) _ _) (by first | omega | exact zand_rng _ _ | exact zor_rng _ _ | exact zxor_rng _ _ | exact BT.r (IT.b (by assumption)) _ _) (fun c13 => absurd c13 (by omega)) (fun c13 => ?_)
        refine r_aload_n (pc := 16) C 0 dX8_sameAsRow_16 rfl rfl ?_
        refine r_get (pc := 17) C 0 0 4 dX8_sameAsRow_17 in_X8 rfl rfl (ci := 8) rfl (by decide) tw_147 rfl rfl ?_
        refine r_iload_n (pc := 20) C 3 dX8_sameAsRow_20 rfl rfl ?_
        refine r_iaload (pc := 21) C 0 1 dX8_sameAsRow_21 rfl rfl (by decide) (by omega) ?_
        refine r_aload_n (pc := 22) C 1 dX8_sameAsRow_22 rfl rfl ?_
        refine r_get (pc := 23) C 2 0 6 dX8_sameAsRow_23 in_X6 rfl rfl (ci := 6) rfl (by decide) tw_88 rfl rfl ?_
        refine r_iload_n (pc := 26) C 3 dX8_sameAsRow_26 rfl rfl ?_
        refine r_iaload (pc := 27) C 2 7 dX8_sameAsRow_27 rfl rfl (by decide) (by omega) ?_
        refine r_icmp_ne (pc := 28) (tgt := 37) C dX8_sameAsRow_28 (by decide) (by first | omega | exact zand_rng _ _ | exact zor_rng _ _ | exact zxor_rng _ _ | exact BT.r (IT.b (by assumption)) _ _) (by first | omega | exact zand_rng _ _ | exact zor_rng _ _ | exact zxor_rng _ _ | exact BT.r (IT.b (by assumption)) _ _) (fun c28 => ?_) (fun c28 => ?_)
        · refine r_iload_n (pc := 37) C 3 dX8_sameAsRow_37 rfl rfl ?_
          exact r_iret (pc := 38) C hQ dX8_sameAsRow_38 rfl (jst_ri (by first | exact (sSm_n h0 (by omega) hp (by omega)).symm | (rw [show m = i by omega]; exact (sSm_y h0 hp).symm)) rfl)
        · refine r_iinc (pc := 31) C dX8_sameAsRow_31 rfl ?_
          refine r_goto (pc := 34) (tgt := 2) C dX8_sameAsRow_34 (by decide) ?_
          refine Wc.to (ih (i + 1) (by omega) (by omega) (by omega) (fun j a c => if e : j = i then by rw [e]; omega else hp j a (by omega))) rfl (lsub_s rfl (lsub_s rfl (lsub_s rfl (lsub_s rfl lsub_0)))) (by rfl)
  refine Wc.to (L2 ((m - (0)).toNat + 1) (0) (by omega) (by omega) (by omega) (fun j a c => absurd c (by omega))) rfl (lsub_s rfl (lsub_s rfl (lsub_s rfl (lsub_s rfl lsub_0)))) (by rfl)

