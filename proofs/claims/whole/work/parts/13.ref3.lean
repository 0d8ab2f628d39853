theorem zc_r (p : Prop) : 0 ≤ zc p ∧ zc p ≤ 1 := @zb_r p (Classical.propDecidable p)
theorem zc_n {p : Prop} (h : ¬ zc p = 0) : p := Classical.byContradiction (fun q => h (zc_f q))
theorem zc_z {p : Prop} (h : zc p = 0) : ¬ p := fun q => by rw [zc_t q] at h; exact absurd h (by decide)
theorem sPN_s (T : Tn) (f : Int → Int) {k : Int} (h : 0 ≤ k) : sPN T f (k + 1) = sPN T f k + zc (sHit T f k) := sSum_s _ h
theorem sPF_y {T : Tn} {f : Int → Int} {k : Int} (h : 0 ≤ k) (hh : sHit T f k) : sPF T f (k + 1) = if sPF T f k < 0 then k else sPF T f k := by
  unfold sPF
  rw [@sFind_s _ (fun k => Classical.propDecidable _) k h]
  by_cases q : @sFind (sHit T f) (fun k => Classical.propDecidable _) k < 0
  · rw [if_pos ⟨q, hh⟩, if_pos q]
  · rw [if_neg (fun z => q z.1), if_neg q]
theorem sPF_n {T : Tn} {f : Int → Int} {k : Int} (h : 0 ≤ k) (hh : ¬ sHit T f k) : sPF T f (k + 1) = sPF T f k := by
  unfold sPF
  rw [@sFind_s _ (fun k => Classical.propDecidable _) k h, if_neg (fun z => hh z.2)]
theorem sPF_r (T : Tn) (f : Int → Int) {k : Int} (h : 0 ≤ k) : sPF T f k = -9 ∨ (0 ≤ sPF T f k ∧ sPF T f k < k) := @sFind_r _ (fun k => Classical.propDecidable _) k h
/-- a set is carried -/
def sPutS (T : Tn) (s q i : Int) : Tn := it (fun d U => if zbit s d = 1 then up U 6 d q else U) T i
theorem sPutS_s (T : Tn) (s q : Int) {i : Int} (h : 0 ≤ i) : sPutS T s q (i + 1) = if zbit s i = 1 then up (sPutS T s q i) 6 i q else sPutS T s q i := it_s _ _ h
theorem sPutS_p {T : Tn} (h : IT T) (s : Int) {q : Int} (hq : 0 ≤ q ∧ q < T 0 0) {i : Int} (h0 : 0 ≤ i) : IT (sPutS T s q i) ∧ ∀ a, a ≠ 6 → sPutS T s q i a = T a := by
  refine it_inv (f := fun d U => if zbit s d = 1 then up U 6 d q else U) (a := T) (fun i U => IT U ∧ ∀ a, a ≠ 6 → U a = T a) ⟨h, fun _ _ => rfl⟩ (fun i U hi ih => ?_) i h0
  obtain ⟨a1, a2⟩ := ih
  have e : U 0 0 = T 0 0 := by rw [a2 0 (by decide)]
  split
  · exact ⟨IT_at a1 (by omega), fun a ha => by rw [up_a ha]; exact a2 a ha⟩
  · exact ⟨a1, a2⟩
def sStayU (T : Tn) (s q n : Int) : Tn := sDusks (sPutS T s q (T 0 1)) n
theorem sStayU_p {T : Tn} (h : IT T) (s : Int) {q n : Int} (hq : 0 ≤ q ∧ q < T 0 0) (hn : 0 ≤ n) (hk : T 0 4 + n ≤ 1100) : IT (sStayU T s q n) ∧ T 0 1 ≤ sStayU T s q n 0 1 := by
  have hD := h.D
  obtain ⟨a1, a2⟩ := sPutS_p h s hq hD.1
  have e0 : sPutS T s q (T 0 1) 0 = T 0 := a2 0 (by decide)
  obtain ⟨b1, b2, -⟩ := sDusks_p a1 hn (by rw [e0]; exact hk)
  exact ⟨b1, by rw [e0] at b2; exact b2⟩
def sStayV (U : Tn) (s q i : Int) : Int := sSum (fun d => if zbit s d = 1 ∧ U 6 d = q then sVal U d else 0) i
theorem sStayV_s (U : Tn) (s q : Int) {i : Int} (h : 0 ≤ i) : sStayV U s q (i + 1) = sStayV U s q i + (if zbit s i = 1 ∧ U 6 i = q then sVal U i else 0) := sSum_s _ h
theorem sStayV_r {U : Tn} (h : IT U) (s q : Int) {i : Int} (h0 : 0 ≤ i) (h1 : i ≤ U 0 1) : 0 ≤ sStayV U s q i ∧ sStayV U s q i ≤ 64 := by
  have hD := h.D
  have := sSum_r (f := fun d => if zbit s d = 1 ∧ U 6 d = q then sVal U d else 0) (k := U 0 1) (m := 8) (fun j hj hk => by
    have hd := h.d hj hk
    have hv := sVal_r (T := U) (d := j) (by omega)
    show 0 ≤ (if zbit s j = 1 ∧ U 6 j = q then sVal U j else 0) ∧ (if zbit s j = 1 ∧ U 6 j = q then sVal U j else 0) ≤ 8
    split <;> omega) i h0 h1
  unfold sStayV
  omega
theorem sWorth_r {T : Tn} (h : IT T) (s : Int) {i : Int} (h0 : 0 ≤ i) (h1 : i ≤ T 0 1) : 0 ≤ sWorth T s i ∧ sWorth T s i ≤ 64 := by
  have hD := h.D
  have := sSum_r (f := fun d => if zbit s d = 1 then sVal T d else 0) (k := T 0 1) (m := 8) (fun j hj hk => by
    have hd := h.d hj hk
    have hv := sVal_r (T := T) (d := j) (by omega)
    show 0 ≤ (if zbit s j = 1 then sVal T j else 0) ∧ (if zbit s j = 1 then sVal T j else 0) ≤ 8
    split <;> omega) i h0 h1
  unfold sWorth
  omega
def v_stay (T : Tn) (s q n : Int) : Int := sStayV (sStayU T s q n) s q (sStayU T s q n 0 1)
def pAre (T : Tn) (s : Int) : Prop := 0 ≤ s ∧ s < zp2 (T 0 1) ∧ ∀ d, 0 ≤ d → d < T 0 1 → zbit s d = 1 → T 6 d ≠ 9
def sAllIn (T : Tn) (s q : Int) : Prop := ∀ d, 0 ≤ d → d < T 0 1 → zbit s d = 1 → T 6 d = q
noncomputable def q_stays (T : Tn) (s q n : Int) : Int := if zc (pAre T s) = 1 ∧ 0 ≤ q ∧ q < T 0 0 then sOut n 0 40 else -1
def q_cheap (T : Tn) (f t m n : Int) : Int := if (0 ≤ f ∧ f < T 0 0) ∧ (0 ≤ t ∧ t < T 0 0) ∧ f ≠ t then (if m < 0 ∨ n < 0 then -4 else if 999 < m ∨ 40 < n then -6 else 0) else -1
noncomputable def sCheap (T : Tn) (f t m n i : Int) : Int × Int := it (fun s r => if zc (sAllIn T s f) = 1 ∧ (r.1 < 0 ∨ sWorth T s (T 0 1) < r.2) ∧ m ≤ v_stay T s t n then (s, sWorth T s (T 0 1)) else r) (-9, 0) i
theorem sCheap_s (T : Tn) (f t m n : Int) {i : Int} (h : 0 ≤ i) : sCheap T f t m n (i + 1) = if zc (sAllIn T i f) = 1 ∧ ((sCheap T f t m n i).1 < 0 ∨ sWorth T i (T 0 1) < (sCheap T f t m n i).2) ∧ m ≤ v_stay T i t n then (i, sWorth T i (T 0 1)) else sCheap T f t m n i := it_s _ _ h
theorem sCheap_r {T : Tn} (h : IT T) (f t m n : Int) {i : Int} (h0 : 0 ≤ i) : ((sCheap T f t m n i).1 = -9 ∨ 0 ≤ (sCheap T f t m n i).1 ∧ (sCheap T f t m n i).1 < i) ∧ (0 ≤ (sCheap T f t m n i).2 ∧ (sCheap T f t m n i).2 ≤ 64) := by
  have hD := h.D
  refine it_inv (f := fun s r => if zc (sAllIn T s f) = 1 ∧ (r.1 < 0 ∨ sWorth T s (T 0 1) < r.2) ∧ m ≤ v_stay T s t n then (s, sWorth T s (T 0 1)) else r) (a := ((-9 : Int), (0 : Int))) (fun i r => (r.1 = -9 ∨ 0 ≤ r.1 ∧ r.1 < i) ∧ (0 ≤ r.2 ∧ r.2 ≤ 64)) ⟨Or.inl rfl, by decide⟩ (fun i r hi ih => ?_) i h0
  have hw := sWorth_r h i hD.1 (Int.le_refl _)
  split
  · show (i = -9 ∨ 0 ≤ i ∧ i < i + 1) ∧ (0 ≤ sWorth T i (T 0 1) ∧ sWorth T i (T 0 1) ≤ 64)
    omega
  · omega
theorem up1_up1 (R : Tn) (a : Nat) (F F' : Int → Int) : up1 (up1 R a F) a F' = up1 R a F' := by
  funext j
  unfold up1
  by_cases h : j = a
  · rw [if_pos h, if_pos h]
  · rw [if_neg h, if_neg h, if_neg h]
theorem zbit_0 (d : Int) : zbit 0 d = 0 := by
  unfold zbit
  rw [Int.zero_ediv]
  rfl
set_option maxRecDepth 100000 in
set_option maxHeartbeats 4000000 in
theorem c_X9_paid (l : Launch) (G : GT) (b : Nat → Nat) (R T : Tn) (w : Int) (hI : IT T) (hR : IR R) (hk9 : T 0 4 ≤ 999) (gw : -2147483648 ≤ w ∧ w < 2147483648) : Cn l yX9_paid cX9_paid 9 (Option.some .int) ({ frames := 6, cells := 0, slots := 0, locals := 134 }) G [.ref (b 0), .int (iI w)] (wR G b R T) (jst (some (.int (iI (zans (q_paid T w (R 0 3)) (v_paid T (R 8) w))))) (wR G b (zif (q_paid T w (R 0 3)) (up1 R 5 (flat T)) (rfs R (q_paid T w (R 0 3)))) (zif (q_paid T w (R 0 3)) (T) T))) := by
  refine Cn_in RX9 [some (.ref (b 0)), some (.int (iI w)), none, none, none, none, none, none, none] (by decide +kernel) rfl rfl rfl (Nat.le_of_ble_eq_true rfl) (fun K C hQ => ?_)
  obtain ⟨r0, r1, r3, r6, r8⟩ := hR
  have hBB := hI.b
  have hLL := hI.L
  have hDD := hI.D
  have hkk := hI.k
  refine r_iload_n (pc := 0) C 1 dX9_paid_0 rfl rfl ?_
  refine r_iconst (pc := 1) C dX9_paid_1 ?_
  refine r_callS (pc := 2) (is := []) C YX9_isIn dX9_paid_2 tw_809 (c_X9_isIn l G _ _ (by first | assumption | omega | exact zand_rng _ _ | exact zor_rng _ _ | exact zxor_rng _ _ | exact BT.r (IT.b (by assumption)) _ _) (by first | assumption | omega | exact zand_rng _ _ | exact zor_rng _ _ | exact zxor_rng _ _ | exact BT.r (IT.b (by assumption)) _ _)) rfl (by decide) rfl rfl (Nat.le_of_ble_eq_true rfl) ⟨rfl, rfl, by decide, by decide⟩ (jst_i rfl ?_)
  refine r_ifb_ne (pc := 5) (tgt := 13) C dX9_paid_5 (by decide) (fun c5 => ?_) (fun c5 => ?_)
  · refine r_aload_n (pc := 13) C 0 dX9_paid_13 rfl rfl ?_
    refine r_get (pc := 14) C 0 0 11 dX9_paid_14 in_X9 rfl rfl (ci := 9) rfl (by decide) tw_752 rfl rfl ?_
    refine r_aload_n (pc := 17) C 0 dX9_paid_17 rfl rfl ?_
    refine r_get (pc := 18) C 0 0 1 dX9_paid_18 in_X9 rfl rfl (ci := 9) rfl (by decide) tw_742 rfl rfl ?_
    refine r_iconst (pc := 21) C dX9_paid_21 ?_
    refine r_ialoadE (pc := 22) C 2 0 dX9_paid_22 rfl rfl (by decide) (by omega) (flat_0 _ (by decide)) ?_
    refine r_icmp_eq (pc := 23) (tgt := 31) C dX9_paid_23 (by decide) (by first | omega | exact zand_rng _ _ | exact zor_rng _ _ | exact zxor_rng _ _ | exact BT.r (IT.b (by assumption)) _ _) (by first | omega | exact zand_rng _ _ | exact zor_rng _ _ | exact zxor_rng _ _ | exact BT.r (IT.b (by assumption)) _ _) (fun c23 => ?_) (fun c23 => ?_)
    · refine r_iconst (pc := 31) C dX9_paid_31 ?_
      refine r_istore_n (pc := 32) C 2 dX9_paid_32 rfl (Nat.le_of_ble_eq_true rfl) ?_
      refine r_iload_n (pc := 33) C 2 dX9_paid_33 rfl rfl ?_
      refine r_if_eq (pc := 34) (tgt := 43) C dX9_paid_34 (by decide) (by first | omega | exact zand_rng _ _ | exact zor_rng _ _ | exact zxor_rng _ _ | exact BT.r (IT.b (by assumption)) _ _) (fun c34 => ?_) (fun c34 => absurd c34 (by omega))
      have hrd : R 0 3 = T 0 1 := by omega
      refine r_iconst (pc := 43) C dX9_paid_43 ?_
      refine r_istore_n (pc := 44) C 3 dX9_paid_44 rfl (Nat.le_of_ble_eq_true rfl) ?_
      refine r_bipush (pc := 45) C dX9_paid_45 (by decide) ?_
      refine r_istore (pc := 47) C dX9_paid_47 (Nat.le_of_ble_eq_true rfl) ?_
      refine r_aload_n (pc := 49) C 0 dX9_paid_49 rfl rfl ?_
      refine r_callV (pc := 50) (is := [0, 1, 2, 3, 4, 5, 6, 7, 8]) C YX9_begins dX9_paid_50 tw_933 (c_X9_begins l G _ _ _) 0 0 rfl rfl (ci := 9) rfl rfl rfl (by decide) rfl rfl (Nat.le_of_ble_eq_true rfl) ⟨rfl, rfl, by decide, by decide⟩ (jst_v (R_uall ..) ?_)
      refine r_iconst (pc := 53) C dX9_paid_53 ?_
      refine r_istore (pc := 54) C dX9_paid_54 (Nat.le_of_ble_eq_true rfl) ?_
      have L56 : ∀ (n : Nat) (i : Int), 0 ≤ i → i ≤ 10 * T 0 1 → 10 * T 0 1 < i + n → Wc K G 56 [some (.ref (b 0)), some (.int (iI w)), none, some (.int (iI (sPN T (R 8) i))), some (.int (iI (sPF T (R 8) i))), some (.int (iI i)), none, none, none] [] (wR G b (up1 R 5 (flat T)) T) := by
        intro n
        induction n with
        | zero =>
          intro i h0 h1 hn; omega
        | succ n ih =>
          intro i h0 h1 hn
          have hf := sPF_r T (R 8) h0
          have hr5 : up1 R 5 (flat T) 0 3 = T 0 1 := hrd
          refine r_iload (pc := 56) C dX9_paid_56 rfl ?_
          refine r_bipush (pc := 58) C dX9_paid_58 (by decide) ?_
          refine r_aload_n (pc := 60) C 0 dX9_paid_60 rfl rfl ?_
          refine r_get (pc := 61) C 0 0 11 dX9_paid_61 in_X9 rfl rfl (ci := 9) rfl (by decide) tw_752 rfl rfl ?_
          refine r_imul (pc := 64) C dX9_paid_64 ?_
          refine r_icmp_ge (pc := 65) (tgt := 169) C dX9_paid_65 (by decide) (by first | omega | exact zand_rng _ _ | exact zor_rng _ _ | exact zxor_rng _ _ | exact BT.r (IT.b (by assumption)) _ _) (by first | omega | exact zand_rng _ _ | exact zor_rng _ _ | exact zxor_rng _ _ | exact BT.r (IT.b (by assumption)) _ _) (fun c65 => ?_) (fun c65 => ?_)
          · obtain rfl : i = 10 * T 0 1 := by omega
            refine r_iload_n (pc := 169) C 1 dX9_paid_169 rfl rfl ?_
            refine r_if_ne (pc := 170) (tgt := 177) C dX9_paid_170 (by decide) (by first | omega | exact zand_rng _ _ | exact zor_rng _ _ | exact zxor_rng _ _ | exact BT.r (IT.b (by assumption)) _ _) (fun c170 => ?_) (fun c170 => ?_)
            · refine r_iload (pc := 177) C dX9_paid_177 rfl ?_
              exact r_iret (pc := 179) C hQ dX9_paid_179 rfl (fin_okR (by unfold q_paid; (repeat (first | rw [if_pos (by omega)] | rw [if_neg (by omega)])); (try first | rfl | assumption | omega)) (by unfold v_paid; (repeat (first | rw [if_pos (by omega)] | rw [if_neg (by omega)]))) (by rfl))
            · refine r_iload_n (pc := 173) C 3 dX9_paid_173 rfl rfl ?_
              refine r_goto (pc := 174) (tgt := 179) C dX9_paid_174 (by decide) ?_
              exact r_iret (pc := 179) C hQ dX9_paid_179 rfl (fin_okR (by unfold q_paid; (repeat (first | rw [if_pos (by omega)] | rw [if_neg (by omega)])); (try first | rfl | assumption | omega)) (by unfold v_paid; (repeat (first | rw [if_pos (by omega)] | rw [if_neg (by omega)]))) (by rfl))
          · refine r_iload (pc := 68) C dX9_paid_68 rfl ?_
            refine r_bipush (pc := 70) C dX9_paid_70 (by decide) ?_
            refine r_idiv (pc := 72) C dX9_paid_72 (by omega) (by omega) ?_
            refine r_istore (pc := 73) C dX9_paid_73 (Nat.le_of_ble_eq_true rfl) ?_
            refine r_iload (pc := 75) C dX9_paid_75 rfl ?_
            refine r_bipush (pc := 77) C dX9_paid_77 (by decide) ?_
            refine r_irem (pc := 79) C dX9_paid_79 (by omega) (by omega) ?_
            refine r_istore (pc := 80) C dX9_paid_80 (Nat.le_of_ble_eq_true rfl) ?_
            refine r_aload_n (pc := 82) C 0 dX9_paid_82 rfl rfl ?_
            refine r_iload (pc := 83) C dX9_paid_83 rfl ?_
            refine r_callV (pc := 85) (is := [0, 1, 2, 3, 4, 5, 6, 7, 8]) C YX9_isLoft dX9_paid_85 tw_834 (c_X9_isLoft l G _ _ _ _ (by first | assumption | omega | exact zand_rng _ _ | exact zor_rng _ _ | exact zxor_rng _ _ | exact BT.r (IT.b (by assumption)) _ _) (by first | assumption | omega | exact zand_rng _ _ | exact zor_rng _ _ | exact zxor_rng _ _ | exact BT.r (IT.b (by assumption)) _ _)) 0 0 rfl rfl (ci := 9) rfl rfl rfl (by decide) rfl rfl (Nat.le_of_ble_eq_true rfl) ⟨rfl, rfl, by decide, by decide⟩ (jst_i (R_uall ..) ?_)
            refine r_ifb_eq (pc := 88) (tgt := 163) C dX9_paid_88 (by decide) (fun c88 => ?_) (fun c88 => ?_)
            · try have hh0 : ¬ sHit T (R 8) i := fun q => by obtain ⟨q1, q2, q3, -⟩ := q; omega
              refine r_iinc (pc := 163) C dX9_paid_163 rfl ?_
              refine r_goto (pc := 166) (tgt := 56) C dX9_paid_166 (by decide) ?_
              refine Wc.to (ih (i + 1) (by omega) (by omega) (by omega)) rfl (lsub_s rfl (lsub_s rfl (lsub_n (lsub_s (by rw [sPN_s _ _ h0]; first | rw [zc_t hh] | rw [zc_f hh, Int.add_zero] | rw [zc_f hh0, Int.add_zero]) (lsub_s (by first | (rw [sPF_y h0 hh]; first | rw [if_pos (by omega)] | rw [if_neg (by omega)]) | rw [sPF_n h0 hh] | rw [sPF_n h0 hh0]) (lsub_s rfl (lsub_n (lsub_n (lsub_n lsub_0))))))))) rfl
            · refine r_aload_n (pc := 91) C 0 dX9_paid_91 rfl rfl ?_
              refine r_iload (pc := 92) C dX9_paid_92 rfl ?_
              refine r_callV (pc := 94) (is := [0, 1, 2, 3, 4, 5, 6, 7, 8]) C YX9_isLost dX9_paid_94 tw_854 (c_X9_isLost l G _ _ _ _ (by first | assumption | omega | exact zand_rng _ _ | exact zor_rng _ _ | exact zxor_rng _ _ | exact BT.r (IT.b (by assumption)) _ _) (by first | assumption | omega | exact zand_rng _ _ | exact zor_rng _ _ | exact zxor_rng _ _ | exact BT.r (IT.b (by assumption)) _ _)) 0 0 rfl rfl (ci := 9) rfl rfl rfl (by decide) rfl rfl (Nat.le_of_ble_eq_true rfl) ⟨rfl, rfl, by decide, by decide⟩ (jst_i (R_uall ..) ?_)
              refine r_ifb_ne (pc := 97) (tgt := 163) C dX9_paid_97 (by decide) (fun c97 => ?_) (fun c97 => ?_)
              · try have hh0 : ¬ sHit T (R 8) i := fun q => by obtain ⟨q1, q2, q3, -⟩ := q; omega
                refine r_iinc (pc := 163) C dX9_paid_163 rfl ?_
                refine r_goto (pc := 166) (tgt := 56) C dX9_paid_166 (by decide) ?_
                refine Wc.to (ih (i + 1) (by omega) (by omega) (by omega)) rfl (lsub_s rfl (lsub_s rfl (lsub_n (lsub_s (by rw [sPN_s _ _ h0]; first | rw [zc_t hh] | rw [zc_f hh, Int.add_zero] | rw [zc_f hh0, Int.add_zero]) (lsub_s (by first | (rw [sPF_y h0 hh]; first | rw [if_pos (by omega)] | rw [if_neg (by omega)]) | rw [sPF_n h0 hh] | rw [sPF_n h0 hh0]) (lsub_s rfl (lsub_n (lsub_n (lsub_n lsub_0))))))))) rfl
              · refine r_aload_n (pc := 100) C 0 dX9_paid_100 rfl rfl ?_
                refine r_iload (pc := 101) C dX9_paid_101 rfl ?_
                refine r_iconst (pc := 103) C dX9_paid_103 ?_
                refine r_callV (pc := 104) (is := [0, 1, 2, 3, 4, 5, 6, 7, 8]) C YX9_get dX9_paid_104 tw_842 (c_X9_get3 l G _ _ _ _ (by first | assumption | omega | exact zand_rng _ _ | exact zor_rng _ _ | exact zxor_rng _ _ | exact BT.r (IT.b (by assumption)) _ _)) 0 0 rfl rfl (ci := 9) rfl rfl rfl (by decide) rfl rfl (Nat.le_of_ble_eq_true rfl) ⟨rfl, rfl, by decide, by decide⟩ (jst_i (R_uall ..) ?_)
                refine r_iload (pc := 107) C dX9_paid_107 rfl ?_
                refine r_icmp_ne (pc := 109) (tgt := 115) C dX9_paid_109 (by decide) (by first | omega | exact zand_rng _ _ | exact zor_rng _ _ | exact zxor_rng _ _ | exact BT.r (IT.b (by assumption)) _ _) (by first | omega | exact zand_rng _ _ | exact zor_rng _ _ | exact zxor_rng _ _ | exact BT.r (IT.b (by assumption)) _ _) (fun c109 => ?_) (fun c109 => ?_)
                · have hI1 : IT (up T 6 (i / 10) (i % 10)) := IT_at hI (by omega)
                  obtain ⟨hI2, hI3, -⟩ := sDusk_p hI1 (by show T 0 4 < 1100; omega)
                  have hI3 : T 0 1 ≤ sDusk (up T 6 (i / 10) (i % 10)) 0 1 := hI3
                  refine r_aload_n (pc := 115) C 0 dX9_paid_115 rfl rfl ?_
                  refine r_iload (pc := 116) C dX9_paid_116 rfl ?_
                  refine r_iconst (pc := 118) C dX9_paid_118 ?_
                  refine r_iload (pc := 119) C dX9_paid_119 rfl ?_
                  refine r_callV (pc := 121) (is := [0, 1, 2, 3, 4, 5, 6, 7, 8]) C YX9_puts dX9_paid_121 tw_893 (c_X9_puts3 l G _ _ _ _ _ (by first | assumption | omega | exact zand_rng _ _ | exact zor_rng _ _ | exact zxor_rng _ _ | exact BT.r (IT.b (by assumption)) _ _)) 0 0 rfl rfl (ci := 9) rfl rfl rfl (by decide) rfl rfl (Nat.le_of_ble_eq_true rfl) ⟨rfl, rfl, by decide, by decide⟩ (jst_v (R_uall ..) ?_)
                  refine r_aload_n (pc := 124) C 0 dX9_paid_124 rfl rfl ?_
                  refine r_callV (pc := 125) (is := [0, 1, 2, 3, 4, 5, 6, 7, 8]) C YX9_goes dX9_paid_125 tw_917 (c_X9_goes l G _ _ _ (by first | assumption | omega | exact zand_rng _ _ | exact zor_rng _ _ | exact zxor_rng _ _ | exact BT.r (IT.b (by assumption)) _ _) (by show T 0 4 < 1100; omega)) 0 0 rfl rfl (ci := 9) rfl rfl rfl (by decide) rfl rfl (Nat.le_of_ble_eq_true rfl) ⟨rfl, rfl, by decide, by decide⟩ (jst_v (R_uall ..) ?_)
                  refine r_aload_n (pc := 128) C 0 dX9_paid_128 rfl rfl ?_
                  refine r_callV (pc := 129) (is := [0, 1, 2, 3, 4, 5, 6, 7, 8]) C YX9_isAsTold dX9_paid_129 tw_1010 (c_X9_isAsTold l G _ (up1 R 5 (flat T)) _ hI2 (by show 0 ≤ R 0 3 ∧ R 0 3 ≤ _; omega) r8) 0 0 rfl rfl (ci := 9) rfl rfl rfl (by decide) rfl rfl (Nat.le_of_ble_eq_true rfl) ⟨rfl, rfl, by decide, by decide⟩ (jst_i (R_uall ..) ?_)
                  have hz129 := zc_r (sTold (sDusk (up T 6 (i / 10) (i % 10))) (up1 R 5 (flat T) 8) (up1 R 5 (flat T) 0 3))
                  refine r_istore (pc := 132) C dX9_paid_132 (Nat.le_of_ble_eq_true rfl) ?_
                  refine r_aload_n (pc := 134) C 0 dX9_paid_134 rfl rfl ?_
                  refine r_callV (pc := 135) (is := [0, 1, 2, 3, 4, 5, 6, 7, 8]) C YX9_ends dX9_paid_135 tw_941 (c_X9_ends l G _ _ _ _ rfl) 0 0 rfl rfl (ci := 9) rfl rfl rfl (by decide) rfl rfl (Nat.le_of_ble_eq_true rfl) ⟨rfl, rfl, by decide, by decide⟩ (jst_v (R_uall ..) ?_)
                  refine r_iload (pc := 138) C dX9_paid_138 rfl ?_
                  refine r_if_ne (pc := 140) (tgt := 146) C dX9_paid_140 (by decide) (by first | omega | exact zand_rng _ _ | exact zor_rng _ _ | exact zxor_rng _ _ | exact BT.r (IT.b (by assumption)) _ _) (fun c140 => ?_) (fun c140 => ?_)
                  · have hh : sHit T (R 8) i := ⟨by omega, by omega, by omega, by rw [← hrd]; exact zc_n c140⟩
                    refine r_iinc (pc := 146) C dX9_paid_146 rfl ?_
                    refine r_iload (pc := 149) C dX9_paid_149 rfl ?_
                    refine r_if_ge (pc := 151) (tgt := 159) C dX9_paid_151 (by decide) (by first | omega | exact zand_rng _ _ | exact zor_rng _ _ | exact zxor_rng _ _ | exact BT.r (IT.b (by assumption)) _ _) (fun c151 => ?_) (fun c151 => ?_)
                    · refine r_iload (pc := 159) C dX9_paid_159 rfl ?_
                      refine r_istore (pc := 161) C dX9_paid_161 (Nat.le_of_ble_eq_true rfl) ?_
                      try have hh0 : ¬ sHit T (R 8) i := fun q => by obtain ⟨q1, q2, q3, -⟩ := q; omega
                      refine r_iinc (pc := 163) C dX9_paid_163 rfl ?_
                      refine r_goto (pc := 166) (tgt := 56) C dX9_paid_166 (by decide) ?_
                      refine Wc.to (ih (i + 1) (by omega) (by omega) (by omega)) rfl (lsub_s rfl (lsub_s rfl (lsub_n (lsub_s (by rw [sPN_s _ _ h0]; first | rw [zc_t hh] | rw [zc_f hh, Int.add_zero] | rw [zc_f hh0, Int.add_zero]) (lsub_s (by first | (rw [sPF_y h0 hh]; first | rw [if_pos (by omega)] | rw [if_neg (by omega)]) | rw [sPF_n h0 hh] | rw [sPF_n h0 hh0]) (lsub_s rfl (lsub_n (lsub_n (lsub_n lsub_0))))))))) rfl
                    · refine r_iload (pc := 154) C dX9_paid_154 rfl ?_
                      refine r_goto (pc := 156) (tgt := 161) C dX9_paid_156 (by decide) ?_
                      refine r_istore (pc := 161) C dX9_paid_161 (Nat.le_of_ble_eq_true rfl) ?_
                      try have hh0 : ¬ sHit T (R 8) i := fun q => by obtain ⟨q1, q2, q3, -⟩ := q; omega
                      refine r_iinc (pc := 163) C dX9_paid_163 rfl ?_
                      refine r_goto (pc := 166) (tgt := 56) C dX9_paid_166 (by decide) ?_
                      refine Wc.to (ih (i + 1) (by omega) (by omega) (by omega)) rfl (lsub_s rfl (lsub_s rfl (lsub_n (lsub_s (by rw [sPN_s _ _ h0]; first | rw [zc_t hh] | rw [zc_f hh, Int.add_zero] | rw [zc_f hh0, Int.add_zero]) (lsub_s (by first | (rw [sPF_y h0 hh]; first | rw [if_pos (by omega)] | rw [if_neg (by omega)]) | rw [sPF_n h0 hh] | rw [sPF_n h0 hh0]) (lsub_s rfl (lsub_n (lsub_n (lsub_n lsub_0))))))))) rfl
                  · have hh : ¬ sHit T (R 8) i := fun q => zc_z c140 (by have q4 := q.2.2.2; rw [← hrd] at q4; exact q4)
                    refine r_goto (pc := 143) (tgt := 163) C dX9_paid_143 (by decide) ?_
                    try have hh0 : ¬ sHit T (R 8) i := fun q => by obtain ⟨q1, q2, q3, -⟩ := q; omega
                    refine r_iinc (pc := 163) C dX9_paid_163 rfl ?_
                    refine r_goto (pc := 166) (tgt := 56) C dX9_paid_166 (by decide) ?_
                    refine Wc.to (ih (i + 1) (by omega) (by omega) (by omega)) rfl (lsub_s rfl (lsub_s rfl (lsub_n (lsub_s (by rw [sPN_s _ _ h0]; first | rw [zc_t hh] | rw [zc_f hh, Int.add_zero] | rw [zc_f hh0, Int.add_zero]) (lsub_s (by first | (rw [sPF_y h0 hh]; first | rw [if_pos (by omega)] | rw [if_neg (by omega)]) | rw [sPF_n h0 hh] | rw [sPF_n h0 hh0]) (lsub_s rfl (lsub_n (lsub_n (lsub_n lsub_0))))))))) rfl
                · refine r_goto (pc := 112) (tgt := 163) C dX9_paid_112 (by decide) ?_
                  try have hh0 : ¬ sHit T (R 8) i := fun q => by obtain ⟨q1, q2, q3, -⟩ := q; omega
                  refine r_iinc (pc := 163) C dX9_paid_163 rfl ?_
                  refine r_goto (pc := 166) (tgt := 56) C dX9_paid_166 (by decide) ?_
                  refine Wc.to (ih (i + 1) (by omega) (by omega) (by omega)) rfl (lsub_s rfl (lsub_s rfl (lsub_n (lsub_s (by rw [sPN_s _ _ h0]; first | rw [zc_t hh] | rw [zc_f hh, Int.add_zero] | rw [zc_f hh0, Int.add_zero]) (lsub_s (by first | (rw [sPF_y h0 hh]; first | rw [if_pos (by omega)] | rw [if_neg (by omega)]) | rw [sPF_n h0 hh] | rw [sPF_n h0 hh0]) (lsub_s rfl (lsub_n (lsub_n (lsub_n lsub_0))))))))) rfl
      refine Wc.to (L56 ((10 * T 0 1).toNat + 1) 0 (by omega) (by omega) (by omega)) rfl (lsub_s rfl (lsub_s rfl (lsub_n (lsub_s rfl (lsub_s rfl (lsub_s rfl (lsub_n (lsub_n (lsub_n lsub_0))))))))) rfl
    · refine r_bipush (pc := 26) C dX9_paid_26 (by decide) ?_
      refine r_goto (pc := 28) (tgt := 32) C dX9_paid_28 (by decide) ?_
      refine r_istore_n (pc := 32) C 2 dX9_paid_32 rfl (Nat.le_of_ble_eq_true rfl) ?_
      refine r_iload_n (pc := 33) C 2 dX9_paid_33 rfl rfl ?_
      refine r_if_eq (pc := 34) (tgt := 43) C dX9_paid_34 (by decide) (by first | omega | exact zand_rng _ _ | exact zor_rng _ _ | exact zxor_rng _ _ | exact BT.r (IT.b (by assumption)) _ _) (fun c34 => absurd c34 (by omega)) (fun c34 => ?_)
      refine r_aload_n (pc := 37) C 0 dX9_paid_37 rfl rfl ?_
      refine r_iload_n (pc := 38) C 2 dX9_paid_38 rfl rfl ?_
      refine r_callV (pc := 39) (is := [0, 1, 2, 3, 4, 5, 6, 7, 8]) C YX9_refuse dX9_paid_39 tw_785 (c_X9_refuse l G _ _ _ _ (by first | assumption | omega | exact zand_rng _ _ | exact zor_rng _ _ | exact zxor_rng _ _ | exact BT.r (IT.b (by assumption)) _ _)) 0 0 rfl rfl (ci := 9) rfl rfl rfl (by decide) rfl rfl (Nat.le_of_ble_eq_true rfl) ⟨rfl, rfl, by decide, by decide⟩ (jst_i (R_uall ..) ?_)
      exact r_iret (pc := 42) C hQ dX9_paid_42 rfl (fin_noR (by unfold q_paid; (repeat (first | rw [if_pos (by omega)] | rw [if_neg (by omega)])); (try first | rfl | assumption | omega)) (by omega) rfl)
  · refine r_bipush (pc := 8) C dX9_paid_8 (by decide) ?_
    refine r_goto (pc := 10) (tgt := 32) C dX9_paid_10 (by decide) ?_
    refine r_istore_n (pc := 32) C 2 dX9_paid_32 rfl (Nat.le_of_ble_eq_true rfl) ?_
    refine r_iload_n (pc := 33) C 2 dX9_paid_33 rfl rfl ?_
    refine r_if_eq (pc := 34) (tgt := 43) C dX9_paid_34 (by decide) (by first | omega | exact zand_rng _ _ | exact zor_rng _ _ | exact zxor_rng _ _ | exact BT.r (IT.b (by assumption)) _ _) (fun c34 => absurd c34 (by omega)) (fun c34 => ?_)
    refine r_aload_n (pc := 37) C 0 dX9_paid_37 rfl rfl ?_
    refine r_iload_n (pc := 38) C 2 dX9_paid_38 rfl rfl ?_
    refine r_callV (pc := 39) (is := [0, 1, 2, 3, 4, 5, 6, 7, 8]) C YX9_refuse dX9_paid_39 tw_785 (c_X9_refuse l G _ _ _ _ (by first | assumption | omega | exact zand_rng _ _ | exact zor_rng _ _ | exact zxor_rng _ _ | exact BT.r (IT.b (by assumption)) _ _)) 0 0 rfl rfl (ci := 9) rfl rfl rfl (by decide) rfl rfl (Nat.le_of_ble_eq_true rfl) ⟨rfl, rfl, by decide, by decide⟩ (jst_i (R_uall ..) ?_)
    exact r_iret (pc := 42) C hQ dX9_paid_42 rfl (fin_noR (by unfold q_paid; (repeat (first | rw [if_pos (by omega)] | rw [if_neg (by omega)])); (try first | rfl | assumption | omega)) (by omega) rfl)

set_option maxRecDepth 100000 in
set_option maxHeartbeats 4000000 in
theorem c_X9_judge (l : Launch) (G : GT) (b : Nat → Nat) (R T : Tn) (hI : IT T) (hR : IR R) : Cn l yX9_judge cX9_judge 3 (Option.some .int) ({ frames := 1, cells := 0, slots := 0, locals := 22 }) G [.ref (b 0)] (wR G b R T) (jst (some (.int (iI (v_judge T (R 8) (R 0 3))))) (wR G b (up R 0 3 0) T)) := by
  refine Cn_in RX9 [some (.ref (b 0)), none, none] (by decide +kernel) rfl rfl rfl (Nat.le_of_ble_eq_true rfl) (fun K C hQ => ?_)
  obtain ⟨r0, r1, r3, r6, r8⟩ := hR
  have hBB := hI.b
  have hLL := hI.L
  have hDD := hI.D
  refine r_aload_n (pc := 0) C 0 dX9_judge_0 rfl rfl ?_
  refine r_get (pc := 1) C 0 0 11 dX9_judge_1 in_X9 rfl rfl (ci := 9) rfl (by decide) tw_752 rfl rfl ?_
  refine r_istore_n (pc := 4) C 1 dX9_judge_4 rfl (Nat.le_of_ble_eq_true rfl) ?_
  refine r_aload_n (pc := 5) C 0 dX9_judge_5 rfl rfl ?_
  refine r_iconst (pc := 6) C dX9_judge_6 ?_
  refine r_put (pc := 7) C 0 0 11 dX9_judge_7 in_X9 tyX9_ok nmX9 rfl rfl (ci := 9) rfl (by decide) tw_752 rfl rfl (tyX9_ok 11 (by decide)) rfl rfl (Nat.le_of_ble_eq_true rfl) rfl (R_p0_11 ..) ?_
  refine r_iconst (pc := 10) C dX9_judge_10 ?_
  refine r_istore_n (pc := 11) C 2 dX9_judge_11 rfl (Nat.le_of_ble_eq_true rfl) ?_
  have L12 : ∀ (n : Nat) (i : Int), 0 ≤ i → i ≤ R 0 3 → R 0 3 < i + n → sFind (fun d => d = T 0 1 ∨ R 8 d ≠ T 6 d) i = -9 → Wc K G 12 [some (.ref (b 0)), some (.int (iI (R 0 3))), some (.int (iI i))] [] (wR G b (up R 0 3 0) T) := by
    intro n
    induction n with
    | zero =>
      intro i h0 h1 hn; omega
    | succ n ih =>
      intro i h0 h1 hn hp
      have hr8 := r8 i
      have hrq : up R 0 3 0 8 i = R 8 i := rfl
      have hss := sFind_s (fun d => d = T 0 1 ∨ R 8 d ≠ T 6 d) h0
      have hst := sFind_st (fun d => d = T 0 1 ∨ R 8 d ≠ T 6 d) (i := i + 1) (j := R 0 3) (by omega)
      refine r_iload_n (pc := 12) C 2 dX9_judge_12 rfl rfl ?_
      refine r_iload_n (pc := 13) C 1 dX9_judge_13 rfl rfl ?_
      refine r_icmp_ge (pc := 14) (tgt := 50) C dX9_judge_14 (by decide) (by first | omega | exact zand_rng _ _ | exact zor_rng _ _ | exact zxor_rng _ _ | exact BT.r (IT.b (by assumption)) _ _) (by first | omega | exact zand_rng _ _ | exact zor_rng _ _ | exact zxor_rng _ _ | exact BT.r (IT.b (by assumption)) _ _) (fun c14 => ?_) (fun c14 => ?_)
      · refine r_iload_n (pc := 50) C 1 dX9_judge_50 rfl rfl ?_
        refine r_aload_n (pc := 51) C 0 dX9_judge_51 rfl rfl ?_
        refine r_get (pc := 52) C 0 0 1 dX9_judge_52 in_X9 rfl rfl (ci := 9) rfl (by decide) tw_742 rfl rfl ?_
        refine r_iconst (pc := 55) C dX9_judge_55 ?_
        refine r_ialoadE (pc := 56) C 2 0 dX9_judge_56 rfl rfl (by decide) (by omega) (flat_0 _ (by decide)) ?_
        refine r_icmp_ge (pc := 57) (tgt := 64) C dX9_judge_57 (by decide) (by first | omega | exact zand_rng _ _ | exact zor_rng _ _ | exact zxor_rng _ _ | exact BT.r (IT.b (by assumption)) _ _) (by first | omega | exact zand_rng _ _ | exact zor_rng _ _ | exact zxor_rng _ _ | exact BT.r (IT.b (by assumption)) _ _) (fun c57 => ?_) (fun c57 => ?_)
        · refine r_bipush (pc := 64) C dX9_judge_64 (by decide) ?_
          exact r_iret (pc := 66) C hQ dX9_judge_66 rfl (jst_ri (by unfold v_judge; rw [show R 0 3 = i by omega, hp]; (repeat (first | rw [if_pos (by omega)] | rw [if_neg (by omega)])); (try omega)) rfl)
        · refine r_iload_n (pc := 60) C 1 dX9_judge_60 rfl rfl ?_
          refine r_goto (pc := 61) (tgt := 66) C dX9_judge_61 (by decide) ?_
          exact r_iret (pc := 66) C hQ dX9_judge_66 rfl (jst_ri (by unfold v_judge; rw [show R 0 3 = i by omega, hp]; (repeat (first | rw [if_pos (by omega)] | rw [if_neg (by omega)])); (try omega)) rfl)
      · refine r_iload_n (pc := 17) C 2 dX9_judge_17 rfl rfl ?_
        refine r_aload_n (pc := 18) C 0 dX9_judge_18 rfl rfl ?_
        refine r_get (pc := 19) C 0 0 1 dX9_judge_19 in_X9 rfl rfl (ci := 9) rfl (by decide) tw_742 rfl rfl ?_
        refine r_iconst (pc := 22) C dX9_judge_22 ?_
        refine r_ialoadE (pc := 23) C 2 0 dX9_judge_23 rfl rfl (by decide) (by omega) (flat_0 _ (by decide)) ?_
        refine r_icmp_eq (pc := 24) (tgt := 42) C dX9_judge_24 (by decide) (by first | omega | exact zand_rng _ _ | exact zor_rng _ _ | exact zxor_rng _ _ | exact BT.r (IT.b (by assumption)) _ _) (by first | omega | exact zand_rng _ _ | exact zor_rng _ _ | exact zxor_rng _ _ | exact BT.r (IT.b (by assumption)) _ _) (fun c24 => ?_) (fun c24 => ?_)
        · refine r_iload_n (pc := 42) C 2 dX9_judge_42 rfl rfl ?_
          exact r_iret (pc := 43) C hQ dX9_judge_43 rfl (jst_ri (by rw [if_pos (by omega)] at hss; rw [hss] at hst; unfold v_judge; rw [hst h0 (by omega), if_pos h0]) rfl)
        · refine r_aload_n (pc := 27) C 0 dX9_judge_27 rfl rfl ?_
          refine r_get (pc := 28) C 0 0 10 dX9_judge_28 in_X9 rfl rfl (ci := 9) rfl (by decide) tw_751 rfl rfl ?_
          refine r_iload_n (pc := 31) C 2 dX9_judge_31 rfl rfl ?_
          refine r_iaload (pc := 32) C 8 0 dX9_judge_32 rfl rfl (by decide) (by omega) ?_
          refine r_aload_n (pc := 33) C 0 dX9_judge_33 rfl rfl ?_
          refine r_iload_n (pc := 34) C 2 dX9_judge_34 rfl rfl ?_
          refine r_iconst (pc := 35) C dX9_judge_35 ?_
          refine r_callV (pc := 36) (is := [0, 1, 2, 3, 4, 5, 6, 7, 8]) C YX9_get dX9_judge_36 tw_842 (c_X9_get3 l G _ _ _ _ (by omega)) 0 0 rfl rfl (ci := 9) rfl rfl rfl (by decide) rfl rfl (Nat.le_of_ble_eq_true rfl) ⟨rfl, rfl, by decide, by decide⟩ (jst_i (R_uall ..) ?_)
          refine r_icmp_eq (pc := 39) (tgt := 44) C dX9_judge_39 (by decide) (by first | omega | exact zand_rng _ _ | exact zor_rng _ _ | exact zxor_rng _ _ | exact BT.r (IT.b (by assumption)) _ _) (by first | omega | exact zand_rng _ _ | exact zor_rng _ _ | exact zxor_rng _ _ | exact BT.r (IT.b (by assumption)) _ _) (fun c39 => ?_) (fun c39 => ?_)
          · refine r_iinc (pc := 44) C dX9_judge_44 rfl ?_
            refine r_goto (pc := 47) (tgt := 12) C dX9_judge_47 (by decide) ?_
            refine Wc.to (ih (i + 1) (by omega) (by omega) (by omega) (by rw [sFind_s _ h0, if_neg (by omega)]; exact hp)) rfl (lsub_s rfl (lsub_s rfl (lsub_s rfl lsub_0))) (by rfl)
          · refine r_iload_n (pc := 42) C 2 dX9_judge_42 rfl rfl ?_
            exact r_iret (pc := 43) C hQ dX9_judge_43 rfl (jst_ri (by rw [if_pos (by omega)] at hss; rw [hss] at hst; unfold v_judge; rw [hst h0 (by omega), if_pos h0]) rfl)
  refine Wc.to (L12 ((R 0 3 - (0)).toNat + 1) (0) (by omega) (by omega) (by omega) rfl) rfl (lsub_s rfl (lsub_s rfl (lsub_s rfl lsub_0))) (by rfl)

set_option maxRecDepth 100000 in
set_option maxHeartbeats 4000000 in
theorem c_X9_image (l : Launch) (G : GT) (b : Nat → Nat) (R T : Tn) (hI : IT T) (hR : IR R) : Cn l yX9_image cX9_image 1 (Option.some .int) ({ frames := 1, cells := 0, slots := 0, locals := 22 }) G [.ref (b 0)] (wR G b R T) (jst (some (.int (iI (T 0 4)))) (wR G b (up (up1 R 3 (flat T)) 0 0 1) T)) := by
  refine Cn_in RX9 [some (.ref (b 0))] (by decide +kernel) rfl rfl rfl (Nat.le_of_ble_eq_true rfl) (fun K C hQ => ?_)
  obtain ⟨r0, r1, r3, r6, r8⟩ := hR
  have hBB := hI.b
  have hLL := hI.L
  have hDD := hI.D
  refine r_aload_n (pc := 0) C 0 dX9_image_0 rfl rfl ?_
  refine r_get (pc := 1) C 0 0 1 dX9_image_1 in_X9 rfl rfl (ci := 9) rfl (by decide) tw_742 rfl rfl ?_
  refine r_aload_n (pc := 4) C 0 dX9_image_4 rfl rfl ?_
  refine r_get (pc := 5) C 0 0 2 dX9_image_5 in_X9 rfl rfl (ci := 9) rfl (by decide) tw_743 rfl rfl ?_
  refine r_callS (pc := 8) (is := [2, 3]) C YX9_lays dX9_image_8 tw_823 (c_X9_lays l G _ _ _ _) rfl (by decide) rfl rfl (Nat.le_of_ble_eq_true rfl) ⟨rfl, rfl, by decide, by decide⟩ (jst_v (R_u2_3 ..) ?_)
  refine r_aload_n (pc := 11) C 0 dX9_image_11 rfl rfl ?_
  refine r_iconst (pc := 12) C dX9_image_12 ?_
  refine r_put (pc := 13) C 0 0 5 dX9_image_13 in_X9 tyX9_ok nmX9 rfl rfl (ci := 9) rfl (by decide) tw_746 rfl rfl (tyX9_ok 5 (by decide)) rfl rfl (Nat.le_of_ble_eq_true rfl) rfl (R_p0_5 ..) ?_
  refine r_aload_n (pc := 16) C 0 dX9_image_16 rfl rfl ?_
  refine r_get (pc := 17) C 0 0 1 dX9_image_17 in_X9 rfl rfl (ci := 9) rfl (by decide) tw_742 rfl rfl ?_
  refine r_iconst (pc := 20) C dX9_image_20 ?_
  refine r_ialoadE (pc := 21) C 2 0 dX9_image_21 rfl rfl (by decide) (by omega) (flat_0 _ (by decide)) ?_
  exact r_iret (pc := 22) C hQ dX9_image_22 rfl (jst_ri (by first | rfl | omega) rfl)

set_option maxRecDepth 100000 in
set_option maxHeartbeats 4000000 in
theorem c_X9_on (l : Launch) (G : GT) (b : Nat → Nat) (R T : Tn) (P : Tn) (hI : IT T) (hR : IR R) (hP : R 0 0 = 1 → R 3 = flat P) : Cn l yX9_on cX9_on 1 (Option.some .int) ({ frames := 1, cells := 0, slots := 0, locals := 22 }) G [.ref (b 0)] (wR G b R T) (jst (some (.int (iI (zans (if R 0 0 = 0 then -3 else 0) (P 0 4))))) (wR G b (zif (if R 0 0 = 0 then -3 else 0) R (rfs R (if R 0 0 = 0 then -3 else 0))) (zif (if R 0 0 = 0 then -3 else 0) P T))) := by
  refine Cn_in RX9 [some (.ref (b 0))] (by decide +kernel) rfl rfl rfl (Nat.le_of_ble_eq_true rfl) (fun K C hQ => ?_)
  obtain ⟨r0, r1, r3, r6, r8⟩ := hR
  have hBB := hI.b
  have hLL := hI.L
  have hDD := hI.D
  refine r_aload_n (pc := 0) C 0 dX9_on_0 rfl rfl ?_
  refine r_get (pc := 1) C 0 0 5 dX9_on_1 in_X9 rfl rfl (ci := 9) rfl (by decide) tw_746 rfl rfl ?_
  refine r_if_ne (pc := 4) (tgt := 14) C dX9_on_4 (by decide) (by first | omega | exact zand_rng _ _ | exact zor_rng _ _ | exact zxor_rng _ _ | exact BT.r (IT.b (by assumption)) _ _) (fun c4 => ?_) (fun c4 => ?_)
  · refine r_aload_n (pc := 14) C 0 dX9_on_14 rfl rfl ?_
    refine r_get (pc := 15) C 0 0 2 dX9_on_15 in_X9 rfl rfl (ci := 9) rfl (by decide) tw_743 rfl rfl ?_
    refine r_aload_n (pc := 18) C 0 dX9_on_18 rfl rfl ?_
    refine r_get (pc := 19) C 0 0 1 dX9_on_19 in_X9 rfl rfl (ci := 9) rfl (by decide) tw_742 rfl rfl ?_
    refine r_callS (pc := 22) (is := [3, 2]) C YX9_lays dX9_on_22 tw_823 (c_X9_lays l G _ _ _ _) rfl (by decide) rfl rfl (Nat.le_of_ble_eq_true rfl) ⟨rfl, rfl, by decide, by decide⟩ (jst_v (R_ends (Or.inr (Or.inr rfl)) (hP (by omega))) ?_)
    refine r_aload_n (pc := 25) C 0 dX9_on_25 rfl rfl ?_
    refine r_get (pc := 26) C 0 0 1 dX9_on_26 in_X9 rfl rfl (ci := 9) rfl (by decide) tw_742 rfl rfl ?_
    refine r_iconst (pc := 29) C dX9_on_29 ?_
    refine r_ialoadE (pc := 30) C 2 0 dX9_on_30 rfl rfl (by decide) (by omega) (show flat P 4 = P 0 4 from flat_0 _ (by decide)) ?_
    exact r_iret (pc := 31) C hQ dX9_on_31 rfl (fin_okR (by first | rw [if_pos (by omega)] | rw [if_neg (by omega)]) (by first | rfl | omega) (by rfl))
  · refine r_aload_n (pc := 7) C 0 dX9_on_7 rfl rfl ?_
    refine r_bipush (pc := 8) C dX9_on_8 (by decide) ?_
    refine r_callV (pc := 10) (is := [0, 1, 2, 3, 4, 5, 6, 7, 8]) C YX9_refuse dX9_on_10 tw_785 (c_X9_refuse l G _ _ _ _ (by first | assumption | omega | exact zand_rng _ _ | exact zor_rng _ _ | exact zxor_rng _ _ | exact BT.r (IT.b (by assumption)) _ _)) 0 0 rfl rfl (ci := 9) rfl rfl rfl (by decide) rfl rfl (Nat.le_of_ble_eq_true rfl) ⟨rfl, rfl, by decide, by decide⟩ (jst_i (R_uall ..) ?_)
    exact r_iret (pc := 13) C hQ dX9_on_13 rfl (fin_noR (by first | rw [if_pos (by omega)] | rw [if_neg (by omega)]) (by omega) rfl)

set_option maxRecDepth 100000 in
set_option maxHeartbeats 4000000 in
theorem c_X9_worthNow (l : Launch) (G : GT) (b : Nat → Nat) (R T : Tn) (s : Int) (hI : IT T) (gs : -2147483648 ≤ s ∧ s < 2147483648) : Cn l yX9_worthNow cX9_worthNow 4 (Option.some .int) ({ frames := 2, cells := 0, slots := 0, locals := 43 }) G [.ref (b 0), .int (iI s)] (wR G b R T) (jst (some (.int (iI (sWorth T s (T 0 1))))) (wR G b R T)) := by
  refine Cn_in RX9 [some (.ref (b 0)), some (.int (iI s)), none, none] (by decide +kernel) rfl rfl rfl (Nat.le_of_ble_eq_true rfl) (fun K C hQ => ?_)
  have hBB := hI.b
  have hLL := hI.L
  have hDD := hI.D
  refine r_iconst (pc := 0) C dX9_worthNow_0 ?_
  refine r_istore_n (pc := 1) C 2 dX9_worthNow_1 rfl (Nat.le_of_ble_eq_true rfl) ?_
  refine r_iconst (pc := 2) C dX9_worthNow_2 ?_
  refine r_istore_n (pc := 3) C 3 dX9_worthNow_3 rfl (Nat.le_of_ble_eq_true rfl) ?_
  have L4 : ∀ (n : Nat) (i : Int), 0 ≤ i → i ≤ T 0 1 → T 0 1 < i + n → Wc K G 4 [some (.ref (b 0)), some (.int (iI s)), some (.int (iI (sWorth T s i))), some (.int (iI i))] [] (wR G b R T) := by
    intro n
    induction n with
    | zero =>
      intro i h0 h1 hn; omega
    | succ n ih =>
      intro i h0 h1 hn 
      refine r_iload_n (pc := 4) C 3 dX9_worthNow_4 rfl rfl ?_
      refine r_aload_n (pc := 5) C 0 dX9_worthNow_5 rfl rfl ?_
      refine r_get (pc := 6) C 0 0 1 dX9_worthNow_6 in_X9 rfl rfl (ci := 9) rfl (by decide) tw_742 rfl rfl ?_
      refine r_iconst (pc := 9) C dX9_worthNow_9 ?_
      refine r_ialoadE (pc := 10) C 2 0 dX9_worthNow_10 rfl rfl (by decide) (by omega) (flat_0 _ (by decide)) ?_
      refine r_icmp_ge (pc := 11) (tgt := 41) C dX9_worthNow_11 (by decide) (by first | omega | exact zand_rng _ _ | exact zor_rng _ _ | exact zxor_rng _ _ | exact BT.r (IT.b (by assumption)) _ _) (by first | omega | exact zand_rng _ _ | exact zor_rng _ _ | exact zxor_rng _ _ | exact BT.r (IT.b (by assumption)) _ _) (fun c11 => ?_) (fun c11 => ?_)
      · refine r_iload_n (pc := 41) C 2 dX9_worthNow_41 rfl rfl ?_
        exact r_iret (pc := 42) C hQ dX9_worthNow_42 rfl (jst_ri (by rw [show T 0 1 = i by omega]) rfl)
      · refine r_iload_n (pc := 14) C 2 dX9_worthNow_14 rfl rfl ?_
        refine r_iload_n (pc := 15) C 1 dX9_worthNow_15 rfl rfl ?_
        refine r_iload_n (pc := 16) C 3 dX9_worthNow_16 rfl rfl ?_
        refine r_ishr (pc := 17) C dX9_worthNow_17 (by first | omega | exact zand_rng _ _ | exact zor_rng _ _ | exact zxor_rng _ _ | exact BT.r (IT.b (by assumption)) _ _) (by omega) ?_
        refine r_iconst (pc := 18) C dX9_worthNow_18 ?_
        refine r_iand (pc := 19) C dX9_worthNow_19 ?_
        refine r_iconst (pc := 20) C dX9_worthNow_20 ?_
        refine r_icmp_ne (pc := 21) (tgt := 32) C dX9_worthNow_21 (by decide) (by first | omega | exact zand_rng _ _ | exact zor_rng _ _ | exact zxor_rng _ _ | exact BT.r (IT.b (by assumption)) _ _) (by first | omega | exact zand_rng _ _ | exact zor_rng _ _ | exact zxor_rng _ _ | exact BT.r (IT.b (by assumption)) _ _) (fun c21 => ?_) (fun c21 => ?_)
        · refine r_iconst (pc := 32) C dX9_worthNow_32 ?_
          refine r_iadd (pc := 33) C dX9_worthNow_33 ?_
          refine r_istore_n (pc := 34) C 2 dX9_worthNow_34 rfl (Nat.le_of_ble_eq_true rfl) ?_
          refine r_iinc (pc := 35) C dX9_worthNow_35 rfl ?_
          refine r_goto (pc := 38) (tgt := 4) C dX9_worthNow_38 (by decide) ?_
          refine Wc.to (ih (i + 1) (by omega) (by omega) (by omega) ) rfl (lsub_s (by first | rfl | ((try rw [zand_1] at c21); rw [sWorth_s T s h0]; first | rw [if_pos (by unfold zbit; omega)] | rw [if_neg (by unfold zbit; omega)])) (lsub_s (by first | rfl | ((try rw [zand_1] at c21); rw [sWorth_s T s h0]; first | rw [if_pos (by unfold zbit; omega)] | rw [if_neg (by unfold zbit; omega)])) (lsub_s (by first | rfl | ((try rw [zand_1] at c21); rw [sWorth_s T s h0]; first | rw [if_pos (by unfold zbit; omega)] | rw [if_neg (by unfold zbit; omega)])) (lsub_s (by first | rfl | ((try rw [zand_1] at c21); rw [sWorth_s T s h0]; first | rw [if_pos (by unfold zbit; omega)] | rw [if_neg (by unfold zbit; omega)])) lsub_0)))) (by rfl)
        · refine r_aload_n (pc := 24) C 0 dX9_worthNow_24 rfl rfl ?_
          refine r_iload_n (pc := 25) C 3 dX9_worthNow_25 rfl rfl ?_
          refine r_callV (pc := 26) (is := [0, 1, 2, 3, 4, 5, 6, 7, 8]) C YX9_valueOf dX9_worthNow_26 tw_846 (c_X9_valueOf l G _ _ _ _ (by first | assumption | omega | exact zand_rng _ _ | exact zor_rng _ _ | exact zxor_rng _ _ | exact BT.r (IT.b (by assumption)) _ _) (by first | assumption | omega | exact zand_rng _ _ | exact zor_rng _ _ | exact zxor_rng _ _ | exact BT.r (IT.b (by assumption)) _ _)) 0 0 rfl rfl (ci := 9) rfl rfl rfl (by decide) rfl rfl (Nat.le_of_ble_eq_true rfl) ⟨rfl, rfl, by decide, by decide⟩ (jst_i (R_uall ..) ?_)
          refine r_goto (pc := 29) (tgt := 33) C dX9_worthNow_29 (by decide) ?_
          refine r_iadd (pc := 33) C dX9_worthNow_33 ?_
          refine r_istore_n (pc := 34) C 2 dX9_worthNow_34 rfl (Nat.le_of_ble_eq_true rfl) ?_
          refine r_iinc (pc := 35) C dX9_worthNow_35 rfl ?_
          refine r_goto (pc := 38) (tgt := 4) C dX9_worthNow_38 (by decide) ?_
          refine Wc.to (ih (i + 1) (by omega) (by omega) (by omega) ) rfl (lsub_s (by first | rfl | ((try rw [zand_1] at c21); rw [sWorth_s T s h0]; first | rw [if_pos (by unfold zbit; omega)] | rw [if_neg (by unfold zbit; omega)])) (lsub_s (by first | rfl | ((try rw [zand_1] at c21); rw [sWorth_s T s h0]; first | rw [if_pos (by unfold zbit; omega)] | rw [if_neg (by unfold zbit; omega)])) (lsub_s (by first | rfl | ((try rw [zand_1] at c21); rw [sWorth_s T s h0]; first | rw [if_pos (by unfold zbit; omega)] | rw [if_neg (by unfold zbit; omega)])) (lsub_s (by first | rfl | ((try rw [zand_1] at c21); rw [sWorth_s T s h0]; first | rw [if_pos (by unfold zbit; omega)] | rw [if_neg (by unfold zbit; omega)])) lsub_0)))) (by rfl)
  refine Wc.to (L4 ((T 0 1 - (0)).toNat + 1) (0) (by omega) (by omega) (by omega) ) rfl (lsub_s rfl (lsub_s rfl (lsub_s rfl (lsub_s rfl lsub_0)))) (by rfl)

set_option maxRecDepth 100000 in
set_option maxHeartbeats 4000000 in
theorem c_X9_areAllIn (l : Launch) (G : GT) (b : Nat → Nat) (R T : Tn) (s q : Int) (hI : IT T) (gs : -2147483648 ≤ s ∧ s < 2147483648) (gq : -2147483648 ≤ q ∧ q < 2147483648) : Cn l yX9_areAllIn cX9_areAllIn 4 (Option.some .boolean) ({ frames := 1, cells := 0, slots := 0, locals := 22 }) G [.ref (b 0), .int (iI s), .int (iI q)] (wR G b R T) (jst (some (.int (iI (zc (sAllIn T s q))))) (wR G b R T)) := by
  refine Cn_in RX9 [some (.ref (b 0)), some (.int (iI s)), some (.int (iI q)), none] (by decide +kernel) rfl rfl rfl (Nat.le_of_ble_eq_true rfl) (fun K C hQ => ?_)
  have hBB := hI.b
  have hLL := hI.L
  have hDD := hI.D
  refine r_iconst (pc := 0) C dX9_areAllIn_0 ?_
  refine r_istore_n (pc := 1) C 3 dX9_areAllIn_1 rfl (Nat.le_of_ble_eq_true rfl) ?_
  have L2 : ∀ (n : Nat) (i : Int), 0 ≤ i → i ≤ T 0 1 → T 0 1 < i + n → (∀ d, 0 ≤ d → d < i → zbit s d = 1 → T 6 d = q) → Wc K G 2 [some (.ref (b 0)), some (.int (iI s)), some (.int (iI q)), some (.int (iI i))] [] (wR G b R T) := by
    intro n
    induction n with
    | zero =>
      intro i h0 h1 hn; omega
    | succ n ih =>
      intro i h0 h1 hn hp
      refine r_iload_n (pc := 2) C 3 dX9_areAllIn_2 rfl rfl ?_
      refine r_aload_n (pc := 3) C 0 dX9_areAllIn_3 rfl rfl ?_
      refine r_get (pc := 4) C 0 0 1 dX9_areAllIn_4 in_X9 rfl rfl (ci := 9) rfl (by decide) tw_742 rfl rfl ?_
      refine r_iconst (pc := 7) C dX9_areAllIn_7 ?_
      refine r_ialoadE (pc := 8) C 2 0 dX9_areAllIn_8 rfl rfl (by decide) (by omega) (flat_0 _ (by decide)) ?_
      refine r_icmp_ge (pc := 9) (tgt := 39) C dX9_areAllIn_9 (by decide) (by first | omega | exact zand_rng _ _ | exact zor_rng _ _ | exact zxor_rng _ _ | exact BT.r (IT.b (by assumption)) _ _) (by first | omega | exact zand_rng _ _ | exact zor_rng _ _ | exact zxor_rng _ _ | exact BT.r (IT.b (by assumption)) _ _) (fun c9 => ?_) (fun c9 => ?_)
      · refine r_iconst (pc := 39) C dX9_areAllIn_39 ?_
        exact r_zret (pc := 40) C hQ dX9_areAllIn_40 (by decide) rfl (jst_ri (by exact (zc_t (fun d a c => hp d a (by omega))).symm) rfl)
      · refine r_iload_n (pc := 12) C 1 dX9_areAllIn_12 rfl rfl ?_
        refine r_iload_n (pc := 13) C 3 dX9_areAllIn_13 rfl rfl ?_
        refine r_ishr (pc := 14) C dX9_areAllIn_14 (by first | omega | exact zand_rng _ _ | exact zor_rng _ _ | exact zxor_rng _ _ | exact BT.r (IT.b (by assumption)) _ _) (by omega) ?_
        refine r_iconst (pc := 15) C dX9_areAllIn_15 ?_
        refine r_iand (pc := 16) C dX9_areAllIn_16 ?_
        refine r_iconst (pc := 17) C dX9_areAllIn_17 ?_
        refine r_icmp_ne (pc := 18) (tgt := 33) C dX9_areAllIn_18 (by decide) (by first | omega | exact zand_rng _ _ | exact zor_rng _ _ | exact zxor_rng _ _ | exact BT.r (IT.b (by assumption)) _ _) (by first | omega | exact zand_rng _ _ | exact zor_rng _ _ | exact zxor_rng _ _ | exact BT.r (IT.b (by assumption)) _ _) (fun c18 => ?_) (fun c18 => ?_)
        · refine r_iinc (pc := 33) C dX9_areAllIn_33 rfl ?_
          refine r_goto (pc := 36) (tgt := 2) C dX9_areAllIn_36 (by decide) ?_
          refine Wc.to (ih (i + 1) (by omega) (by omega) (by omega) (fun d a c e => if e2 : d = i then by subst e2; (first | exact absurd e (by unfold zbit; rw [← zand_1]; exact c18) | exact c28) else hp d a (by omega) e)) rfl (lsub_s rfl (lsub_s rfl (lsub_s rfl (lsub_s rfl lsub_0)))) (by rfl)
        · refine r_aload_n (pc := 21) C 0 dX9_areAllIn_21 rfl rfl ?_
          refine r_iload_n (pc := 22) C 3 dX9_areAllIn_22 rfl rfl ?_
          refine r_iconst (pc := 23) C dX9_areAllIn_23 ?_
          refine r_callV (pc := 24) (is := [0, 1, 2, 3, 4, 5, 6, 7, 8]) C YX9_get dX9_areAllIn_24 tw_842 (c_X9_get3 l G _ _ _ _ (by first | assumption | omega | exact zand_rng _ _ | exact zor_rng _ _ | exact zxor_rng _ _ | exact BT.r (IT.b (by assumption)) _ _)) 0 0 rfl rfl (ci := 9) rfl rfl rfl (by decide) rfl rfl (Nat.le_of_ble_eq_true rfl) ⟨rfl, rfl, by decide, by decide⟩ (jst_i (R_uall ..) ?_)
          refine r_iload_n (pc := 27) C 2 dX9_areAllIn_27 rfl rfl ?_
          refine r_icmp_eq (pc := 28) (tgt := 33) C dX9_areAllIn_28 (by decide) (by first | omega | exact zand_rng _ _ | exact zor_rng _ _ | exact zxor_rng _ _ | exact BT.r (IT.b (by assumption)) _ _) (by first | omega | exact zand_rng _ _ | exact zor_rng _ _ | exact zxor_rng _ _ | exact BT.r (IT.b (by assumption)) _ _) (fun c28 => ?_) (fun c28 => ?_)
          · refine r_iinc (pc := 33) C dX9_areAllIn_33 rfl ?_
            refine r_goto (pc := 36) (tgt := 2) C dX9_areAllIn_36 (by decide) ?_
            refine Wc.to (ih (i + 1) (by omega) (by omega) (by omega) (fun d a c e => if e2 : d = i then by subst e2; (first | exact absurd e (by unfold zbit; rw [← zand_1]; exact c18) | exact c28) else hp d a (by omega) e)) rfl (lsub_s rfl (lsub_s rfl (lsub_s rfl (lsub_s rfl lsub_0)))) (by rfl)
          · refine r_iconst (pc := 31) C dX9_areAllIn_31 ?_
            exact r_zret (pc := 32) C hQ dX9_areAllIn_32 (by decide) rfl (jst_ri (by exact (zc_f (fun z => c28 (z i h0 (by omega) (by unfold zbit; rw [← zand_1]; exact c18)))).symm) rfl)
  refine Wc.to (L2 ((T 0 1 - (0)).toNat + 1) (0) (by omega) (by omega) (by omega) (fun d a c => absurd c (by omega))) rfl (lsub_s rfl (lsub_s rfl (lsub_s rfl (lsub_s rfl lsub_0)))) (by rfl)

set_option maxRecDepth 100000 in
set_option maxHeartbeats 4000000 in
theorem c_X9_areDoves (l : Launch) (G : GT) (b : Nat → Nat) (R T : Tn) (s : Int) (hI : IT T) (gs : -2147483648 ≤ s ∧ s < 2147483648) : Cn l yX9_areDoves cX9_areDoves 3 (Option.some .boolean) ({ frames := 2, cells := 0, slots := 0, locals := 43 }) G [.ref (b 0), .int (iI s)] (wR G b R T) (jst (some (.int (iI (zc (pAre T s))))) (wR G b R T)) := by
  refine Cn_in RX9 [some (.ref (b 0)), some (.int (iI s)), none] (by decide +kernel) rfl rfl rfl (Nat.le_of_ble_eq_true rfl) (fun K C hQ => ?_)
  have hBB := hI.b
  have hLL := hI.L
  have hDD := hI.D
  have hzp := zp2_r (L := T 0 1) (by omega)
  refine r_iload_n (pc := 0) C 1 dX9_areDoves_0 rfl rfl ?_
  refine r_if_lt (pc := 1) (tgt := 16) C dX9_areDoves_1 (by decide) (by first | omega | exact zand_rng _ _ | exact zor_rng _ _ | exact zxor_rng _ _ | exact BT.r (IT.b (by assumption)) _ _) (fun c1 => ?_) (fun c1 => ?_)
  · refine r_iconst (pc := 16) C dX9_areDoves_16 ?_
    exact r_zret (pc := 17) C hQ dX9_areDoves_17 (by decide) rfl (jst_ri (by exact (zc_f (fun z => by obtain ⟨z1, z2, -⟩ := z; omega)).symm) rfl)
  · refine r_iload_n (pc := 4) C 1 dX9_areDoves_4 rfl rfl ?_
    refine r_iconst (pc := 5) C dX9_areDoves_5 ?_
    refine r_aload_n (pc := 6) C 0 dX9_areDoves_6 rfl rfl ?_
    refine r_get (pc := 7) C 0 0 1 dX9_areDoves_7 in_X9 rfl rfl (ci := 9) rfl (by decide) tw_742 rfl rfl ?_
    refine r_iconst (pc := 10) C dX9_areDoves_10 ?_
    refine r_ialoadE (pc := 11) C 2 0 dX9_areDoves_11 rfl rfl (by decide) (by omega) (flat_0 _ (by decide)) ?_
    refine r_ishl (pc := 12) C dX9_areDoves_12 (by omega) ?_
    refine r_icmp_lt (pc := 13) (tgt := 18) C dX9_areDoves_13 (by decide) (by first | omega | exact zand_rng _ _ | exact zor_rng _ _ | exact zxor_rng _ _ | exact BT.r (IT.b (by assumption)) _ _) (by first | omega | exact zand_rng _ _ | exact zor_rng _ _ | exact zxor_rng _ _ | exact BT.r (IT.b (by assumption)) _ _) (fun c13 => ?_) (fun c13 => ?_)
    · refine r_iconst (pc := 18) C dX9_areDoves_18 ?_
      refine r_istore_n (pc := 19) C 2 dX9_areDoves_19 rfl (Nat.le_of_ble_eq_true rfl) ?_
      have L20 : ∀ (n : Nat) (i : Int), 0 ≤ i → i ≤ T 0 1 → T 0 1 < i + n → (∀ d, 0 ≤ d → d < i → zbit s d = 1 → T 6 d ≠ 9) → Wc K G 20 [some (.ref (b 0)), some (.int (iI s)), some (.int (iI i))] [] (wR G b R T) := by
        intro n
        induction n with
        | zero =>
          intro i h0 h1 hn; omega
        | succ n ih =>
          intro i h0 h1 hn hp
          refine r_iload_n (pc := 20) C 2 dX9_areDoves_20 rfl rfl ?_
          refine r_aload_n (pc := 21) C 0 dX9_areDoves_21 rfl rfl ?_
          refine r_get (pc := 22) C 0 0 1 dX9_areDoves_22 in_X9 rfl rfl (ci := 9) rfl (by decide) tw_742 rfl rfl ?_
          refine r_iconst (pc := 25) C dX9_areDoves_25 ?_
          refine r_ialoadE (pc := 26) C 2 0 dX9_areDoves_26 rfl rfl (by decide) (by omega) (flat_0 _ (by decide)) ?_
          refine r_icmp_ge (pc := 27) (tgt := 55) C dX9_areDoves_27 (by decide) (by first | omega | exact zand_rng _ _ | exact zor_rng _ _ | exact zxor_rng _ _ | exact BT.r (IT.b (by assumption)) _ _) (by first | omega | exact zand_rng _ _ | exact zor_rng _ _ | exact zxor_rng _ _ | exact BT.r (IT.b (by assumption)) _ _) (fun c27 => ?_) (fun c27 => ?_)
          · refine r_iconst (pc := 55) C dX9_areDoves_55 ?_
            exact r_zret (pc := 56) C hQ dX9_areDoves_56 (by decide) rfl (jst_ri (by exact (zc_t ⟨by omega, by omega, fun d a c => hp d a (by omega)⟩).symm) rfl)
          · refine r_iload_n (pc := 30) C 1 dX9_areDoves_30 rfl rfl ?_
            refine r_iload_n (pc := 31) C 2 dX9_areDoves_31 rfl rfl ?_
            refine r_ishr (pc := 32) C dX9_areDoves_32 (by first | omega | exact zand_rng _ _ | exact zor_rng _ _ | exact zxor_rng _ _ | exact BT.r (IT.b (by assumption)) _ _) (by omega) ?_
            refine r_iconst (pc := 33) C dX9_areDoves_33 ?_
            refine r_iand (pc := 34) C dX9_areDoves_34 ?_
            refine r_iconst (pc := 35) C dX9_areDoves_35 ?_
            refine r_icmp_ne (pc := 36) (tgt := 49) C dX9_areDoves_36 (by decide) (by first | omega | exact zand_rng _ _ | exact zor_rng _ _ | exact zxor_rng _ _ | exact BT.r (IT.b (by assumption)) _ _) (by first | omega | exact zand_rng _ _ | exact zor_rng _ _ | exact zxor_rng _ _ | exact BT.r (IT.b (by assumption)) _ _) (fun c36 => ?_) (fun c36 => ?_)
            · refine r_iinc (pc := 49) C dX9_areDoves_49 rfl ?_
              refine r_goto (pc := 52) (tgt := 20) C dX9_areDoves_52 (by decide) ?_
              refine Wc.to (ih (i + 1) (by omega) (by omega) (by omega) (fun d a c e => if e2 : d = i then by subst e2; (first | exact absurd e (by unfold zbit; rw [← zand_1]; exact c36) | exact c44) else hp d a (by omega) e)) rfl (lsub_s rfl (lsub_s rfl (lsub_s rfl lsub_0))) (by rfl)
            · refine r_aload_n (pc := 39) C 0 dX9_areDoves_39 rfl rfl ?_
              refine r_iload_n (pc := 40) C 2 dX9_areDoves_40 rfl rfl ?_
              refine r_callV (pc := 41) (is := [0, 1, 2, 3, 4, 5, 6, 7, 8]) C YX9_isLost dX9_areDoves_41 tw_854 (c_X9_isLost l G _ _ _ _ (by first | assumption | omega | exact zand_rng _ _ | exact zor_rng _ _ | exact zxor_rng _ _ | exact BT.r (IT.b (by assumption)) _ _) (by first | assumption | omega | exact zand_rng _ _ | exact zor_rng _ _ | exact zxor_rng _ _ | exact BT.r (IT.b (by assumption)) _ _)) 0 0 rfl rfl (ci := 9) rfl rfl rfl (by decide) rfl rfl (Nat.le_of_ble_eq_true rfl) ⟨rfl, rfl, by decide, by decide⟩ (jst_i (R_uall ..) ?_)
              refine r_ifb_eq (pc := 44) (tgt := 49) C dX9_areDoves_44 (by decide) (fun c44 => ?_) (fun c44 => ?_)
              · refine r_iinc (pc := 49) C dX9_areDoves_49 rfl ?_
                refine r_goto (pc := 52) (tgt := 20) C dX9_areDoves_52 (by decide) ?_
                refine Wc.to (ih (i + 1) (by omega) (by omega) (by omega) (fun d a c e => if e2 : d = i then by subst e2; (first | exact absurd e (by unfold zbit; rw [← zand_1]; exact c36) | exact c44) else hp d a (by omega) e)) rfl (lsub_s rfl (lsub_s rfl (lsub_s rfl lsub_0))) (by rfl)
              · refine r_iconst (pc := 47) C dX9_areDoves_47 ?_
                exact r_zret (pc := 48) C hQ dX9_areDoves_48 (by decide) rfl (jst_ri (by exact (zc_f (fun z => z.2.2 i h0 (by omega) (by unfold zbit; rw [← zand_1]; exact c36) c44)).symm) rfl)
      refine Wc.to (L20 ((T 0 1 - (0)).toNat + 1) (0) (by omega) (by omega) (by omega) (fun d a c => absurd c (by omega))) rfl (lsub_s rfl (lsub_s rfl (lsub_s rfl lsub_0))) (by rfl)
    · refine r_iconst (pc := 16) C dX9_areDoves_16 ?_
      exact r_zret (pc := 17) C hQ dX9_areDoves_17 (by decide) rfl (jst_ri (by exact (zc_f (fun z => by obtain ⟨z1, z2, -⟩ := z; omega)).symm) rfl)

