theorem sSum_cg {f g : Int → Int} {k : Int} (h : ∀ j, 0 ≤ j → j < k → f j = g j) : sSum f k = sSum g k := by
  unfold sSum
  exact it_cg (fun i x h0 h1 => by rw [h i h0 h1])
/-- one term is other by e -/
theorem sSum_d {f g : Int → Int} {k j0 e : Int} (hj : 0 ≤ j0 ∧ j0 < k) (he : f j0 = g j0 + e) (h : ∀ j, 0 ≤ j → j < k → j ≠ j0 → f j = g j) : sSum f k = sSum g k + e := by
  have H : ∀ n : Nat, (n : Int) ≤ k → sSum f n = sSum g n + (if j0 < n then e else 0) := by
    intro n
    induction n with
    | zero =>
      intro _
      rw [if_neg (by omega)]
      rfl
    | succ n ih =>
      intro hb
      have h1 := ih (by omega)
      rw [show ((n + 1 : Nat) : Int) = (n : Int) + 1 by omega, sSum_s f (by omega), sSum_s g (by omega), h1]
      by_cases q : (n : Int) = j0
      · rw [if_neg (by omega), if_pos (by omega), q, he]
        omega
      · have := h n (by omega) (by omega) q
        by_cases q2 : j0 < n
        · rw [if_pos q2, if_pos (by omega)]
          omega
        · rw [if_neg q2, if_neg (by omega)]
          omega
  have := H k.toNat (by omega)
  rw [show (k.toNat : Int) = k by omega, if_pos hj.2] at this
  exact this
theorem sLost_up {U : Tn} {i v D : Int} (hi : 0 ≤ i ∧ i < D) (hu : U 6 i ≠ 9) : sLost (up U 6 i v) D = sLost U D + (if v = 9 then 1 else 0) := by
  unfold sLost
  refine sSum_d (j0 := i) hi ?_ (fun j _ _ hj => ?_)
  · show (if up U 6 i v 6 i = 9 then 1 else 0) = (if U 6 i = 9 then 1 else 0) + (if v = 9 then (1 : Int) else 0)
    rw [up_s, if_neg hu]
    omega
  · show (if up U 6 i v 6 j = 9 then (1 : Int) else 0) = (if U 6 j = 9 then 1 else 0)
    rw [up_z hj]
theorem sLost_cg {U V : Tn} {D : Int} (h : ∀ j, 0 ≤ j → j < D → U 6 j = V 6 j) : sLost U D = sLost V D := by
  unfold sLost
  exact sSum_cg (fun j h0 h1 => by rw [h j h0 h1])
/-- how many are lost at this dusk, of the first i -/
def sNl (T : Tn) (i : Int) : Int := sLost (sFlyS T i) (T 0 1) - sLost T (T 0 1)
theorem sNl_0 (T : Tn) : sNl T 0 = 0 := by
  unfold sNl
  show sLost T (T 0 1) - sLost T (T 0 1) = 0
  omega
theorem sNl_y {T : Tn} {i : Int} (h0 : 0 ≤ i) (h1 : i < T 0 1) (hc : sFlyS T i 6 i ≠ 9 ∧ sFlyS T i 7 i = 0 ∧ zbit (sFlyS T i 0 2) (sFlyS T i 6 i) = 1) (hf : sFly (sFlyS T i) i ≠ 9) (hw : sFlyS T i 0 3 < sWay (sFlyS T i) (sFlyS T i 6 i) (sFly (sFlyS T i) i)) : sNl T (i + 1) = sNl T i + 1 := by
  unfold sNl
  rw [sFlyS_s T h0, if_pos hc]
  unfold sGo
  rw [if_neg hf, if_pos hw, sLost_up ⟨h0, h1⟩ hc.1, if_pos rfl]
  omega
theorem sNl_n {T : Tn} {i : Int} (h0 : 0 ≤ i) (h1 : i < T 0 1) (hc : ¬ ((sFlyS T i 6 i ≠ 9 ∧ sFlyS T i 7 i = 0 ∧ zbit (sFlyS T i 0 2) (sFlyS T i 6 i) = 1) ∧ sFly (sFlyS T i) i ≠ 9 ∧ sFlyS T i 0 3 < sWay (sFlyS T i) (sFlyS T i 6 i) (sFly (sFlyS T i) i))) : sNl T (i + 1) = sNl T i := by
  unfold sNl
  rw [sFlyS_s T h0]
  by_cases q : sFlyS T i 6 i ≠ 9 ∧ sFlyS T i 7 i = 0 ∧ zbit (sFlyS T i 0 2) (sFlyS T i 6 i) = 1
  · rw [if_pos q]
    unfold sGo
    by_cases q2 : sFly (sFlyS T i) i = 9
    · rw [if_pos q2]
    · rw [if_neg q2]
      by_cases q3 : sFlyS T i 0 3 < sWay (sFlyS T i) (sFlyS T i 6 i) (sFly (sFlyS T i) i)
      · exact absurd ⟨q, q2, q3⟩ hc
      · rw [if_neg q3, sLost_up ⟨h0, h1⟩ q.1, if_neg q2]
        omega
  · rw [if_neg q]
theorem sLost_app {U : Tn} {D D' : Int} (h0 : 0 ≤ D) (h1 : D ≤ D') (h : ∀ j, D ≤ j → j < D' → U 6 j ≠ 9) : sLost U D' = sLost U D := by
  obtain ⟨n, rfl⟩ : ∃ n : Nat, D' = D + n := ⟨(D' - D).toNat, by omega⟩
  clear h1
  induction n with
  | zero => rw [show D + ((0 : Nat) : Int) = D by omega]
  | succ n ih =>
    rw [show D + ((n + 1 : Nat) : Int) = (D + n) + 1 by omega, sLost_s U (by omega), ih (fun j a b => h j a (by omega)), if_neg (h _ (by omega) (by omega))]
    omega
theorem sEggS_6 {T : Tn} (h : IT T) {i : Int} (h0 : 0 ≤ i) : i ≤ T 0 1 → ∀ j, T 0 1 ≤ j → j < sEggS T i 0 1 → sEggS T i 6 j ≠ 9 := by
  obtain ⟨n, rfl⟩ : ∃ n : Nat, i = (n : Int) := ⟨i.toNat, by omega⟩
  clear h0
  induction n with
  | zero => intro _ j a b; exact absurd b (by show ¬ j < T 0 1; omega)
  | succ n ih =>
    intro hb
    have ih := ih (by omega)
    obtain ⟨hU, hU1, -⟩ := sEggS_p h (i := n) (by omega) (by omega)
    have hL := hU.L
    have hdd := hU.d (d := n) (by omega) (by omega)
    rw [show ((n + 1 : Nat) : Int) = (n : Int) + 1 by omega, sEggS_s T (by omega)]
    split
    · intro j a b
      unfold sAdd at b ⊢
      have b : j < sEggS T n 0 1 + 1 := b
      show zup (sEggS T n 6) (sEggS T n 0 1) (sEggS T n 4 n) j ≠ 9
      by_cases e : j = sEggS T n 0 1
      · rw [e, zup_s]
        omega
      · rw [zup_n e]
        exact ih j a (by omega)
    · exact ih
theorem sLost_dusk {T : Tn} (h : IT T) : sLost (sDusk T) (sDusk T 0 1) = sLost (sFlyS T (T 0 1)) (T 0 1) := by
  have hD := h.D
  obtain ⟨a1, a2, -⟩ := sFlyS_p h hD.1 (Int.le_refl _)
  have e1 : sFlyS T (T 0 1) 0 1 = T 0 1 := by rw [a2 0 (by decide)]
  obtain ⟨b1, b2, -⟩ := sClipS_p a1 (i := T 0 1) hD.1 (by omega)
  have e2 : sD2 T 0 1 = T 0 1 := by
    show sClipS (sFlyS T (T 0 1)) (T 0 1) 0 1 = T 0 1
    rw [b2 0 (by decide), e1]
  have e6 : sD2 T 6 = sFlyS T (T 0 1) 6 := b2 6 (by decide)
  have b1 : IT (sD2 T) := b1
  have h3 : sLost (sD3 T) (sD3 T 0 1) = sLost (sFlyS T (T 0 1)) (T 0 1) ∧ IT (sD3 T) ∧ T 0 1 ≤ sD3 T 0 1 := by
    unfold sD3
    by_cases q : T 0 4 % 3 = 0
    · rw [if_pos q]
      obtain ⟨c1, c2, c3, c4, -⟩ := sEggS_p b1 (i := T 0 1) hD.1 (by omega)
      refine ⟨?_, c1, by omega⟩
      rw [sLost_app (D := T 0 1) hD.1 (by omega) (fun j p q => sEggS_6 b1 hD.1 (by omega) j (by omega) q)]
      refine sLost_cg (fun j p q => ?_)
      rw [c4 6 j (by decide) (by omega), e6]
    · rw [if_neg q]
      refine ⟨?_, b1, by omega⟩
      rw [e2]
      exact sLost_cg (fun j p q => by rw [e6])
  have h4 : sLost (sD4 T) (sD4 T 0 1) = sLost (sD3 T) (sD3 T 0 1) := by
    unfold sD4
    by_cases q : T 0 4 % 5 = 0
    · rw [if_pos q]
      obtain ⟨c1, c2, c3⟩ := sAgeS_p h3.2.1 (i := T 0 1) hD.1 h3.2.2
      rw [c2 0 (by decide)]
      exact sLost_cg (fun j p q => by rw [c2 6 (by decide)])
    · rw [if_neg q]
  show sLost (sDusk T) (sD4 T 0 1) = _
  rw [← h3.1, ← h4]
  exact sLost_cg (fun j p q => rfl)
theorem sAgeS_m {T : Tn} {i : Int} (h0 : 0 ≤ i) (h9 : sAgeS T i 5 i ≤ 9) : sAgeS T (i + 1) = up (sAgeS T i) 5 i (if 9 < sAgeS T i 5 i + 1 then 9 else sAgeS T i 5 i + 1) := by
  rw [sAgeS_s T h0]
  by_cases e : sAgeS T i 5 i < 9
  · rw [if_pos e, if_neg (by omega)]
  · rw [if_neg e, if_pos (by omega), up_same (by omega)]
theorem sLet_m {T : Tn} {i : Int} (h0 : 0 ≤ i) (hw : sFly (sLet T i) i ≠ 9 → sWay (sLet T i) (sLet T i 6 i) (sFly (sLet T i) i) ≤ 18) : sLet T (i + 1) = up (sLet T i) 6 i (if sFly (sLet T i) i = 9 then sLet T i 6 i else sFly (sLet T i) i) := by
  rw [sLet_s T h0]
  unfold sGo
  by_cases e : sFly (sLet T i) i = 9
  · rw [if_pos e, if_pos e, up_same rfl]
  · have := hw e
    rw [if_neg e, if_neg (by omega), if_neg e]
/-! masks -/
def sMask (p : Int → Prop) [DecidablePred p] (i : Int) : Int := sSum (fun d => if p d then zp2 d else 0) i
theorem sMask_s (p : Int → Prop) [DecidablePred p] {i : Int} (h : 0 ≤ i) : sMask p (i + 1) = sMask p i + (if p i then zp2 i else 0) := sSum_s _ h
theorem mk_or : ∀ i : Nat, i < 8 → ∀ s : Nat, s < 128 → (s : Int) < zp2 (i : Int) → zor (s : Int) (1 * zp2 (i : Int)) = (s : Int) + zp2 (i : Int) ∧ (s : Int) + zp2 (i : Int) < zp2 ((i : Int) + 1) ∧ zp2 (i : Int) ≤ zp2 ((i : Int) + 1) ∧ zp2 ((i : Int) + 1) ≤ 256 := by decide +kernel
theorem mk_lt : ∀ i : Nat, i < 9 → zp2 (i : Int) ≤ 256 ∧ (i < 8 → zp2 (i : Int) ≤ 128 ∧ zp2 (i : Int) ≤ zp2 ((i : Int) + 1)) := by decide
theorem mk_bit : ∀ i : Nat, i < 8 → ∀ s : Nat, s < 128 → (s : Int) < zp2 (i : Int) → ∀ d : Nat, d < 8 → zbit ((s : Int) + zp2 (i : Int)) (d : Int) = if d = i then 1 else zbit (s : Int) (d : Int) := by decide +kernel
theorem sMask_r (p : Int → Prop) [DecidablePred p] {i : Int} (h0 : 0 ≤ i) (h8 : i ≤ 8) : (0 ≤ sMask p i ∧ sMask p i < zp2 i) ∧ ∀ d, 0 ≤ d → d < 8 → zbit (sMask p i) d = if d < i ∧ p d then 1 else 0 := by
  obtain ⟨n, rfl⟩ : ∃ n : Nat, i = (n : Int) := ⟨i.toNat, by omega⟩
  clear h0
  induction n with
  | zero =>
    refine ⟨⟨Int.le_refl _, by show (0 : Int) < zp2 0; decide⟩, fun d h0 h1 => ?_⟩
    rw [if_neg (by omega)]
    exact zbit_0 d
  | succ n ih =>
    obtain ⟨⟨a1, a2⟩, a3⟩ := ih (by omega)
    have hl := (mk_lt n (by omega)).2 (by omega)
    rw [show ((n + 1 : Nat) : Int) = (n : Int) + 1 by omega, sMask_s p (by omega)]
    have k1 := mk_or n (by omega) (sMask p n).toNat (by omega)
    have k2 := mk_bit n (by omega) (sMask p n).toNat (by omega)
    rw [show ((sMask p n).toNat : Int) = sMask p n by omega] at k1 k2
    have k1 := k1 a2
    have k2 := k2 a2
    by_cases q : p n
    · rw [if_pos q]
      refine ⟨by omega, fun d h0 h1 => ?_⟩
      have k3 := k2 d.toNat (by omega)
      rw [show (d.toNat : Int) = d by omega] at k3
      rw [k3, a3 d h0 h1]
      by_cases e : d = n
      · rw [if_pos (by omega), if_pos ⟨by omega, by rw [e]; exact q⟩]
      · rw [if_neg (by omega)]
        by_cases e2 : d < n ∧ p d
        · rw [if_pos e2, if_pos ⟨by omega, e2.2⟩]
        · rw [if_neg e2, if_neg (fun z => e2 ⟨by omega, z.2⟩)]
    · rw [if_neg q, Int.add_zero]
      refine ⟨by omega, fun d h0 h1 => ?_⟩
      rw [a3 d h0 h1]
      by_cases e2 : d < n ∧ p d
      · rw [if_pos e2, if_pos ⟨by omega, e2.2⟩]
      · rw [if_neg e2, if_neg (fun z => ?_)]
        by_cases e : d = n
        · rw [e] at z
          exact q z.2
        · exact e2 ⟨by omega, z.2⟩
theorem sMask_or (p : Int → Prop) [DecidablePred p] {i : Int} (h0 : 0 ≤ i) (h8 : i < 8) : zor (sMask p i) (1 * zp2 i) = sMask p i + zp2 i := by
  obtain ⟨⟨a1, a2⟩, -⟩ := sMask_r p h0 (by omega)
  have hl := (mk_lt i.toNat (by omega)).2 (by omega)
  rw [show (i.toNat : Int) = i by omega] at hl
  have k1 := mk_or i.toNat (by omega) (sMask p i).toNat (by omega)
  rw [show ((sMask p i).toNat : Int) = sMask p i by omega, show (i.toNat : Int) = i by omega] at k1
  exact (k1 a2).1
theorem sMask_b (p : Int → Prop) [DecidablePred p] {i d : Int} (h0 : 0 ≤ d) (h1 : d < i) (h8 : i ≤ 8) : zbit (sMask p i) d = 1 ↔ p d := by
  rw [(sMask_r p (i := i) (by omega) h8).2 d h0 (by omega)]
  by_cases q : p d
  · rw [if_pos ⟨h1, q⟩]
    exact ⟨fun _ => q, fun _ => rfl⟩
  · rw [if_neg (fun z => q z.2)]
    exact ⟨fun z => absurd z (by decide), fun z => absurd z q⟩
theorem sWorth_purse {T : Tn} (hD : T 0 1 ≤ 8) (q : Int) : sWorth T (sMask (fun d => T 6 d = q) (T 0 1)) (T 0 1) = sPurse T q (T 0 1) := by
  unfold sWorth sPurse
  refine sSum_cg (fun j h0 h1 => ?_)
  have := sMask_b (fun d => T 6 d = q) h0 h1 hD
  by_cases e : T 6 j = q
  · rw [if_pos e, if_pos (this.mpr e)]
  · rw [if_neg e, if_neg (fun z => e (this.mp z))]
set_option maxRecDepth 100000 in
set_option maxHeartbeats 4000000 in
theorem c_X6_worthOf (l : Launch) (G : GT) (h : Nat → Nat) (T : Tn) (d : Int) (hI : IT T) (hd : 0 ≤ d ∧ d < T 0 1) : Cn l yX6_worthOf cX6_worthOf 2 (Option.some .int) ({ frames := 3, cells := 0, slots := 0, locals := 63 }) G [.ref (h 0), .int (iI d)] (wT G h T) (jst (some (.int (iI (sVal T d)))) (wT G h T)) := by
  refine Cn_in RX6 [some (.ref (h 0)), some (.int (iI d))] (by decide +kernel) rfl rfl rfl (Nat.le_of_ble_eq_true rfl) (fun K C hQ => ?_)
  have hBB := hI.b
  have hLL := hI.L
  have hDD := hI.D
  have hdd := hI.d hd.1 hd.2
  refine r_aload_n (pc := 0) C 0 dX6_worthOf_0 rfl rfl ?_
  refine r_iload_n (pc := 1) C 1 dX6_worthOf_1 rfl rfl ?_
  refine r_callV (pc := 2) (is := [0]) C YX6_hasDove dX6_worthOf_2 tw_423 (c_X6_hasDove l G _ _ _ (by first | assumption | omega | exact zand_rng _ _ | exact zor_rng _ _ | exact zxor_rng _ _ | exact BT.r (IT.b (by assumption)) _ _) (by first | assumption | omega | exact zand_rng _ _ | exact zor_rng _ _ | exact zxor_rng _ _ | exact BT.r (IT.b (by assumption)) _ _)) 0 0 rfl rfl (ci := 6) rfl rfl rfl (by decide) rfl rfl (Nat.le_of_ble_eq_true rfl) ⟨rfl, rfl, by decide, by decide⟩ (jst_i (T_uall ..) ?_)
  refine r_ifb_eq (pc := 5) (tgt := 25) C dX6_worthOf_5 (by decide) (fun c5 => absurd c5 (by omega)) (fun c5 => ?_)
  have hfk : T 3 d = 0 ∨ T 3 d = 1 ∨ T 3 d = 2 ∨ T 3 d = 3 ∨ T 3 d = 4 ∨ T 3 d = 5 := by omega
  rcases hfk with kk0 | kk1 | kk2 | kk3 | kk4 | kk5
  · skip
    refine r_aload_n (pc := 8) C 0 dX6_worthOf_8 rfl rfl ?_
    refine r_iload_n (pc := 9) C 1 dX6_worthOf_9 rfl rfl ?_
    refine r_callV (pc := 10) (is := [0]) C YX6_kindOf dX6_worthOf_10 tw_427 (c_X6_kindOf0 l G _ _ _ (by first | assumption | omega | exact zand_rng _ _ | exact zor_rng _ _ | exact zxor_rng _ _ | exact BT.r (IT.b (by assumption)) _ _) (by first | assumption | omega | exact zand_rng _ _ | exact zor_rng _ _ | exact zxor_rng _ _ | exact BT.r (IT.b (by assumption)) _ _) (by first | assumption | omega | exact zand_rng _ _ | exact zor_rng _ _ | exact zxor_rng _ _ | exact BT.r (IT.b (by assumption)) _ _)) 0 0 rfl rfl (ci := 6) rfl rfl rfl (by decide) rfl rfl (Nat.le_of_ble_eq_true rfl) ⟨rfl, rfl, by decide, by decide⟩ (jst_a (T_uall ..) ?_)
    refine r_aload_n (pc := 13) C 0 dX6_worthOf_13 rfl rfl ?_
    refine r_get (pc := 14) C 0 0 5 dX6_worthOf_14 in_X6 rfl rfl (ci := 6) rfl (by decide) tw_85 rfl rfl ?_
    refine r_iload_n (pc := 17) C 1 dX6_worthOf_17 rfl rfl ?_
    refine r_iaload (pc := 18) C 0 6 dX6_worthOf_18 rfl rfl (by decide) (by omega) ?_
    refine r_callV (pc := 19) (is := []) C YX1_worth dX6_worthOf_19 tw_431 (c_X1_worth l G _ _) 0 9 rfl rfl (ci := 1) rfl rfl rfl (by decide) rfl rfl (Nat.le_of_ble_eq_true rfl) ⟨rfl, rfl, by decide, by decide⟩ (jst_i (ups_nil _) ?_)
    refine r_goto (pc := 22) (tgt := 26) C dX6_worthOf_22 (by decide) ?_
    exact r_iret (pc := 26) C hQ dX6_worthOf_26 rfl (jst_ri (by unfold sVal; (repeat' split) <;> omega) rfl)
  · skip
    refine r_aload_n (pc := 8) C 0 dX6_worthOf_8 rfl rfl ?_
    refine r_iload_n (pc := 9) C 1 dX6_worthOf_9 rfl rfl ?_
    refine r_callV (pc := 10) (is := [0]) C YX6_kindOf dX6_worthOf_10 tw_427 (c_X6_kindOf1 l G _ _ _ (by first | assumption | omega | exact zand_rng _ _ | exact zor_rng _ _ | exact zxor_rng _ _ | exact BT.r (IT.b (by assumption)) _ _) (by first | assumption | omega | exact zand_rng _ _ | exact zor_rng _ _ | exact zxor_rng _ _ | exact BT.r (IT.b (by assumption)) _ _) (by first | assumption | omega | exact zand_rng _ _ | exact zor_rng _ _ | exact zxor_rng _ _ | exact BT.r (IT.b (by assumption)) _ _)) 0 0 rfl rfl (ci := 6) rfl rfl rfl (by decide) rfl rfl (Nat.le_of_ble_eq_true rfl) ⟨rfl, rfl, by decide, by decide⟩ (jst_a (T_uall ..) ?_)
    refine r_aload_n (pc := 13) C 0 dX6_worthOf_13 rfl rfl ?_
    refine r_get (pc := 14) C 0 0 5 dX6_worthOf_14 in_X6 rfl rfl (ci := 6) rfl (by decide) tw_85 rfl rfl ?_
    refine r_iload_n (pc := 17) C 1 dX6_worthOf_17 rfl rfl ?_
    refine r_iaload (pc := 18) C 0 6 dX6_worthOf_18 rfl rfl (by decide) (by omega) ?_
    refine r_callU (pc := 19) (is := [0]) (C0 := RX2) (x := yX1_worth) C YBX2_worth dX6_worthOf_19 tw_431 tw_434 tw_432 tw_455 (by decide +kernel) ⟨by decide +kernel, by decide +kernel⟩ tw_440 tw_439 (c_X2_worth l G _ _ _ (by first | assumption | omega | exact zand_rng _ _ | exact zor_rng _ _ | exact zxor_rng _ _ | exact BT.r (IT.b (by assumption)) _ _)) 0 10 rfl rfl (ci := 2) rfl rfl (by decide) rfl rfl (Nat.le_of_ble_eq_true rfl) ⟨rfl, rfl, by decide, by decide⟩ (jst_i (T_uall ..) ?_)
    refine r_goto (pc := 22) (tgt := 26) C dX6_worthOf_22 (by decide) ?_
    exact r_iret (pc := 26) C hQ dX6_worthOf_26 rfl (jst_ri (by unfold sVal; (repeat' split) <;> omega) rfl)
  · skip
    refine r_aload_n (pc := 8) C 0 dX6_worthOf_8 rfl rfl ?_
    refine r_iload_n (pc := 9) C 1 dX6_worthOf_9 rfl rfl ?_
    refine r_callV (pc := 10) (is := [0]) C YX6_kindOf dX6_worthOf_10 tw_427 (c_X6_kindOf2 l G _ _ _ (by first | assumption | omega | exact zand_rng _ _ | exact zor_rng _ _ | exact zxor_rng _ _ | exact BT.r (IT.b (by assumption)) _ _) (by first | assumption | omega | exact zand_rng _ _ | exact zor_rng _ _ | exact zxor_rng _ _ | exact BT.r (IT.b (by assumption)) _ _) (by first | assumption | omega | exact zand_rng _ _ | exact zor_rng _ _ | exact zxor_rng _ _ | exact BT.r (IT.b (by assumption)) _ _)) 0 0 rfl rfl (ci := 6) rfl rfl rfl (by decide) rfl rfl (Nat.le_of_ble_eq_true rfl) ⟨rfl, rfl, by decide, by decide⟩ (jst_a (T_uall ..) ?_)
    refine r_aload_n (pc := 13) C 0 dX6_worthOf_13 rfl rfl ?_
    refine r_get (pc := 14) C 0 0 5 dX6_worthOf_14 in_X6 rfl rfl (ci := 6) rfl (by decide) tw_85 rfl rfl ?_
    refine r_iload_n (pc := 17) C 1 dX6_worthOf_17 rfl rfl ?_
    refine r_iaload (pc := 18) C 0 6 dX6_worthOf_18 rfl rfl (by decide) (by omega) ?_
    refine r_callU (pc := 19) (is := [0]) (C0 := RX7) (x := yX1_worth) C YBX7_worth dX6_worthOf_19 tw_431 tw_434 tw_432 tw_455 (by decide +kernel) ⟨by decide +kernel, by decide +kernel⟩ tw_451 tw_454 (c_X7_worth11 l G _ _ _) 0 11 rfl rfl (ci := 7) rfl rfl (by decide) rfl rfl (Nat.le_of_ble_eq_true rfl) ⟨rfl, rfl, by decide, by decide⟩ (jst_i (T_uall ..) ?_)
    refine r_goto (pc := 22) (tgt := 26) C dX6_worthOf_22 (by decide) ?_
    exact r_iret (pc := 26) C hQ dX6_worthOf_26 rfl (jst_ri (by unfold sVal; (repeat' split) <;> omega) rfl)
  · skip
    refine r_aload_n (pc := 8) C 0 dX6_worthOf_8 rfl rfl ?_
    refine r_iload_n (pc := 9) C 1 dX6_worthOf_9 rfl rfl ?_
    refine r_callV (pc := 10) (is := [0]) C YX6_kindOf dX6_worthOf_10 tw_427 (c_X6_kindOf3 l G _ _ _ (by first | assumption | omega | exact zand_rng _ _ | exact zor_rng _ _ | exact zxor_rng _ _ | exact BT.r (IT.b (by assumption)) _ _) (by first | assumption | omega | exact zand_rng _ _ | exact zor_rng _ _ | exact zxor_rng _ _ | exact BT.r (IT.b (by assumption)) _ _) (by first | assumption | omega | exact zand_rng _ _ | exact zor_rng _ _ | exact zxor_rng _ _ | exact BT.r (IT.b (by assumption)) _ _)) 0 0 rfl rfl (ci := 6) rfl rfl rfl (by decide) rfl rfl (Nat.le_of_ble_eq_true rfl) ⟨rfl, rfl, by decide, by decide⟩ (jst_a (T_uall ..) ?_)
    refine r_aload_n (pc := 13) C 0 dX6_worthOf_13 rfl rfl ?_
    refine r_get (pc := 14) C 0 0 5 dX6_worthOf_14 in_X6 rfl rfl (ci := 6) rfl (by decide) tw_85 rfl rfl ?_
    refine r_iload_n (pc := 17) C 1 dX6_worthOf_17 rfl rfl ?_
    refine r_iaload (pc := 18) C 0 6 dX6_worthOf_18 rfl rfl (by decide) (by omega) ?_
    refine r_callU (pc := 19) (is := []) (C0 := RX3) (x := yX1_worth) C YBX3_worth dX6_worthOf_19 tw_431 tw_434 tw_432 tw_455 (by decide +kernel) ⟨by decide +kernel, by decide +kernel⟩ tw_445 tw_444 (c_X3_worth l G _ _) 0 12 rfl rfl (ci := 3) rfl rfl (by decide) rfl rfl (Nat.le_of_ble_eq_true rfl) ⟨rfl, rfl, by decide, by decide⟩ (jst_i (ups_nil _) ?_)
    refine r_goto (pc := 22) (tgt := 26) C dX6_worthOf_22 (by decide) ?_
    exact r_iret (pc := 26) C hQ dX6_worthOf_26 rfl (jst_ri (by unfold sVal; (repeat' split) <;> omega) rfl)
  · skip
    refine r_aload_n (pc := 8) C 0 dX6_worthOf_8 rfl rfl ?_
    refine r_iload_n (pc := 9) C 1 dX6_worthOf_9 rfl rfl ?_
    refine r_callV (pc := 10) (is := [0]) C YX6_kindOf dX6_worthOf_10 tw_427 (c_X6_kindOf4 l G _ _ _ (by first | assumption | omega | exact zand_rng _ _ | exact zor_rng _ _ | exact zxor_rng _ _ | exact BT.r (IT.b (by assumption)) _ _) (by first | assumption | omega | exact zand_rng _ _ | exact zor_rng _ _ | exact zxor_rng _ _ | exact BT.r (IT.b (by assumption)) _ _) (by first | assumption | omega | exact zand_rng _ _ | exact zor_rng _ _ | exact zxor_rng _ _ | exact BT.r (IT.b (by assumption)) _ _)) 0 0 rfl rfl (ci := 6) rfl rfl rfl (by decide) rfl rfl (Nat.le_of_ble_eq_true rfl) ⟨rfl, rfl, by decide, by decide⟩ (jst_a (T_uall ..) ?_)
    refine r_aload_n (pc := 13) C 0 dX6_worthOf_13 rfl rfl ?_
    refine r_get (pc := 14) C 0 0 5 dX6_worthOf_14 in_X6 rfl rfl (ci := 6) rfl (by decide) tw_85 rfl rfl ?_
    refine r_iload_n (pc := 17) C 1 dX6_worthOf_17 rfl rfl ?_
    refine r_iaload (pc := 18) C 0 6 dX6_worthOf_18 rfl rfl (by decide) (by omega) ?_
    refine r_callU (pc := 19) (is := [0]) (C0 := RX0) (x := yX1_worth) C YBX0_worth dX6_worthOf_19 tw_431 tw_434 tw_432 tw_455 (by decide +kernel) ⟨by decide +kernel, by decide +kernel⟩ tw_436 tw_435 (c_X0_worth l G _ _ _) 0 13 rfl rfl (ci := 0) rfl rfl (by decide) rfl rfl (Nat.le_of_ble_eq_true rfl) ⟨rfl, rfl, by decide, by decide⟩ (jst_i (T_uall ..) ?_)
    refine r_goto (pc := 22) (tgt := 26) C dX6_worthOf_22 (by decide) ?_
    exact r_iret (pc := 26) C hQ dX6_worthOf_26 rfl (jst_ri (by unfold sVal; (repeat' split) <;> omega) rfl)
  · skip
    refine r_aload_n (pc := 8) C 0 dX6_worthOf_8 rfl rfl ?_
    refine r_iload_n (pc := 9) C 1 dX6_worthOf_9 rfl rfl ?_
    refine r_callV (pc := 10) (is := [0]) C YX6_kindOf dX6_worthOf_10 tw_427 (c_X6_kindOf5 l G _ _ _ (by first | assumption | omega | exact zand_rng _ _ | exact zor_rng _ _ | exact zxor_rng _ _ | exact BT.r (IT.b (by assumption)) _ _) (by first | assumption | omega | exact zand_rng _ _ | exact zor_rng _ _ | exact zxor_rng _ _ | exact BT.r (IT.b (by assumption)) _ _) (by first | assumption | omega | exact zand_rng _ _ | exact zor_rng _ _ | exact zxor_rng _ _ | exact BT.r (IT.b (by assumption)) _ _)) 0 0 rfl rfl (ci := 6) rfl rfl rfl (by decide) rfl rfl (Nat.le_of_ble_eq_true rfl) ⟨rfl, rfl, by decide, by decide⟩ (jst_a (T_uall ..) ?_)
    refine r_aload_n (pc := 13) C 0 dX6_worthOf_13 rfl rfl ?_
    refine r_get (pc := 14) C 0 0 5 dX6_worthOf_14 in_X6 rfl rfl (ci := 6) rfl (by decide) tw_85 rfl rfl ?_
    refine r_iload_n (pc := 17) C 1 dX6_worthOf_17 rfl rfl ?_
    refine r_iaload (pc := 18) C 0 6 dX6_worthOf_18 rfl rfl (by decide) (by omega) ?_
    refine r_callU (pc := 19) (is := [0]) (C0 := RX4) (x := yX1_worth) C YBX4_worth dX6_worthOf_19 tw_431 tw_434 tw_432 tw_455 (by decide +kernel) ⟨by decide +kernel, by decide +kernel⟩ tw_448 tw_447 (c_X4_worth l G _ _ _) 0 14 rfl rfl (ci := 4) rfl rfl (by decide) rfl rfl (Nat.le_of_ble_eq_true rfl) ⟨rfl, rfl, by decide, by decide⟩ (jst_i (T_uall ..) ?_)
    refine r_goto (pc := 22) (tgt := 26) C dX6_worthOf_22 (by decide) ?_
    exact r_iret (pc := 26) C hQ dX6_worthOf_26 rfl (jst_ri (by unfold sVal; (repeat' split) <;> omega) rfl)

set_option maxRecDepth 100000 in
set_option maxHeartbeats 4000000 in
theorem c_X6_aimOf (l : Launch) (G : GT) (h : Nat → Nat) (T : Tn) (d : Int) (hI : IT T) (hd : 0 ≤ d ∧ d < T 0 1) : Cn l yX6_aimOf cX6_aimOf 2 (Option.some .int) ({ frames := 3, cells := 0, slots := 0, locals := 73 }) G [.ref (h 0), .int (iI d)] (wT G h T) (jst (some (.int (iI (sFly T d)))) (wT G h T)) := by
  refine Cn_in RX6 [some (.ref (h 0)), some (.int (iI d))] (by decide +kernel) rfl rfl rfl (Nat.le_of_ble_eq_true rfl) (fun K C hQ => ?_)
  have hBB := hI.b
  have hLL := hI.L
  have hDD := hI.D
  have hdd := hI.d hd.1 hd.2
  refine r_aload_n (pc := 0) C 0 dX6_aimOf_0 rfl rfl ?_
  refine r_iload_n (pc := 1) C 1 dX6_aimOf_1 rfl rfl ?_
  refine r_callV (pc := 2) (is := [0]) C YX6_isLost dX6_aimOf_2 tw_468 (c_X6_isLost l G _ _ _ (by first | assumption | omega | exact zand_rng _ _ | exact zor_rng _ _ | exact zxor_rng _ _ | exact BT.r (IT.b (by assumption)) _ _) (by first | assumption | omega | exact zand_rng _ _ | exact zor_rng _ _ | exact zxor_rng _ _ | exact BT.r (IT.b (by assumption)) _ _)) 0 0 rfl rfl (ci := 6) rfl rfl rfl (by decide) rfl rfl (Nat.le_of_ble_eq_true rfl) ⟨rfl, rfl, by decide, by decide⟩ (jst_i (T_uall ..) ?_)
  refine r_ifb_eq (pc := 5) (tgt := 11) C dX6_aimOf_5 (by decide) (fun c5 => ?_) (fun c5 => ?_)
  · have hfk : T 3 d = 0 ∨ T 3 d = 1 ∨ T 3 d = 2 ∨ T 3 d = 3 ∨ T 3 d = 4 ∨ T 3 d = 5 := by omega
    rcases hfk with kk0 | kk1 | kk2 | kk3 | kk4 | kk5
    · skip
      refine r_aload_n (pc := 11) C 0 dX6_aimOf_11 rfl rfl ?_
      refine r_iload_n (pc := 12) C 1 dX6_aimOf_12 rfl rfl ?_
      refine r_callV (pc := 13) (is := [0]) C YX6_kindOf dX6_aimOf_13 tw_427 (c_X6_kindOf0 l G _ _ _ (by first | assumption | omega | exact zand_rng _ _ | exact zor_rng _ _ | exact zxor_rng _ _ | exact BT.r (IT.b (by assumption)) _ _) (by first | assumption | omega | exact zand_rng _ _ | exact zor_rng _ _ | exact zxor_rng _ _ | exact BT.r (IT.b (by assumption)) _ _) (by first | assumption | omega | exact zand_rng _ _ | exact zor_rng _ _ | exact zxor_rng _ _ | exact BT.r (IT.b (by assumption)) _ _)) 0 0 rfl rfl (ci := 6) rfl rfl rfl (by decide) rfl rfl (Nat.le_of_ble_eq_true rfl) ⟨rfl, rfl, by decide, by decide⟩ (jst_a (T_uall ..) ?_)
      refine r_aload_n (pc := 16) C 0 dX6_aimOf_16 rfl rfl ?_
      refine r_aload_n (pc := 17) C 0 dX6_aimOf_17 rfl rfl ?_
      refine r_get (pc := 18) C 0 0 6 dX6_aimOf_18 in_X6 rfl rfl (ci := 6) rfl (by decide) tw_87 rfl rfl ?_
      refine r_iload_n (pc := 21) C 1 dX6_aimOf_21 rfl rfl ?_
      refine r_iaload (pc := 22) C 0 7 dX6_aimOf_22 rfl rfl (by decide) (by omega) ?_
      refine r_aload_n (pc := 23) C 0 dX6_aimOf_23 rfl rfl ?_
      refine r_get (pc := 24) C 0 0 4 dX6_aimOf_24 in_X6 rfl rfl (ci := 6) rfl (by decide) tw_83 rfl rfl ?_
      refine r_iload_n (pc := 27) C 1 dX6_aimOf_27 rfl rfl ?_
      refine r_iaload (pc := 28) C 0 5 dX6_aimOf_28 rfl rfl (by decide) (by omega) ?_
      refine r_aload_n (pc := 29) C 0 dX6_aimOf_29 rfl rfl ?_
      refine r_get (pc := 30) C 0 0 5 dX6_aimOf_30 in_X6 rfl rfl (ci := 6) rfl (by decide) tw_85 rfl rfl ?_
      refine r_iload_n (pc := 33) C 1 dX6_aimOf_33 rfl rfl ?_
      refine r_iaload (pc := 34) C 0 6 dX6_aimOf_34 rfl rfl (by decide) (by omega) ?_
      refine r_callV (pc := 35) (is := []) C YX1_aim dX6_aimOf_35 tw_482 (c_X1_aim l G _ _ _ _ _) 0 9 rfl rfl (ci := 1) rfl rfl rfl (by decide) rfl rfl (Nat.le_of_ble_eq_true rfl) ⟨rfl, rfl, by decide, by decide⟩ (jst_i (ups_nil _) ?_)
      exact r_iret (pc := 38) C hQ dX6_aimOf_38 rfl (jst_ri (by unfold sFly sAim; (repeat' split) <;> omega) rfl)
    · skip
      refine r_aload_n (pc := 11) C 0 dX6_aimOf_11 rfl rfl ?_
      refine r_iload_n (pc := 12) C 1 dX6_aimOf_12 rfl rfl ?_
      refine r_callV (pc := 13) (is := [0]) C YX6_kindOf dX6_aimOf_13 tw_427 (c_X6_kindOf1 l G _ _ _ (by first | assumption | omega | exact zand_rng _ _ | exact zor_rng _ _ | exact zxor_rng _ _ | exact BT.r (IT.b (by assumption)) _ _) (by first | assumption | omega | exact zand_rng _ _ | exact zor_rng _ _ | exact zxor_rng _ _ | exact BT.r (IT.b (by assumption)) _ _) (by first | assumption | omega | exact zand_rng _ _ | exact zor_rng _ _ | exact zxor_rng _ _ | exact BT.r (IT.b (by assumption)) _ _)) 0 0 rfl rfl (ci := 6) rfl rfl rfl (by decide) rfl rfl (Nat.le_of_ble_eq_true rfl) ⟨rfl, rfl, by decide, by decide⟩ (jst_a (T_uall ..) ?_)
      refine r_aload_n (pc := 16) C 0 dX6_aimOf_16 rfl rfl ?_
      refine r_aload_n (pc := 17) C 0 dX6_aimOf_17 rfl rfl ?_
      refine r_get (pc := 18) C 0 0 6 dX6_aimOf_18 in_X6 rfl rfl (ci := 6) rfl (by decide) tw_87 rfl rfl ?_
      refine r_iload_n (pc := 21) C 1 dX6_aimOf_21 rfl rfl ?_
      refine r_iaload (pc := 22) C 0 7 dX6_aimOf_22 rfl rfl (by decide) (by omega) ?_
      refine r_aload_n (pc := 23) C 0 dX6_aimOf_23 rfl rfl ?_
      refine r_get (pc := 24) C 0 0 4 dX6_aimOf_24 in_X6 rfl rfl (ci := 6) rfl (by decide) tw_83 rfl rfl ?_
      refine r_iload_n (pc := 27) C 1 dX6_aimOf_27 rfl rfl ?_
      refine r_iaload (pc := 28) C 0 5 dX6_aimOf_28 rfl rfl (by decide) (by omega) ?_
      refine r_aload_n (pc := 29) C 0 dX6_aimOf_29 rfl rfl ?_
      refine r_get (pc := 30) C 0 0 5 dX6_aimOf_30 in_X6 rfl rfl (ci := 6) rfl (by decide) tw_85 rfl rfl ?_
      refine r_iload_n (pc := 33) C 1 dX6_aimOf_33 rfl rfl ?_
      refine r_iaload (pc := 34) C 0 6 dX6_aimOf_34 rfl rfl (by decide) (by omega) ?_
      refine r_callU (pc := 35) (is := [0]) (C0 := RX2) (x := yX1_aim) C YBX2_aim dX6_aimOf_35 tw_482 tw_485 tw_483 tw_511 (by decide +kernel) ⟨by decide +kernel, by decide +kernel⟩ tw_488 tw_487 (c_X2_aim l G _ _ _ _ _ (by first | assumption | omega | exact zand_rng _ _ | exact zor_rng _ _ | exact zxor_rng _ _ | exact BT.r (IT.b (by assumption)) _ _)) 0 10 rfl rfl (ci := 2) rfl rfl (by decide) rfl rfl (Nat.le_of_ble_eq_true rfl) ⟨rfl, rfl, by decide, by decide⟩ (jst_i (T_uall ..) ?_)
      exact r_iret (pc := 38) C hQ dX6_aimOf_38 rfl (jst_ri (by unfold sFly sAim; (repeat' split) <;> omega) rfl)
    · skip
      refine r_aload_n (pc := 11) C 0 dX6_aimOf_11 rfl rfl ?_
      refine r_iload_n (pc := 12) C 1 dX6_aimOf_12 rfl rfl ?_
      refine r_callV (pc := 13) (is := [0]) C YX6_kindOf dX6_aimOf_13 tw_427 (c_X6_kindOf2 l G _ _ _ (by first | assumption | omega | exact zand_rng _ _ | exact zor_rng _ _ | exact zxor_rng _ _ | exact BT.r (IT.b (by assumption)) _ _) (by first | assumption | omega | exact zand_rng _ _ | exact zor_rng _ _ | exact zxor_rng _ _ | exact BT.r (IT.b (by assumption)) _ _) (by first | assumption | omega | exact zand_rng _ _ | exact zor_rng _ _ | exact zxor_rng _ _ | exact BT.r (IT.b (by assumption)) _ _)) 0 0 rfl rfl (ci := 6) rfl rfl rfl (by decide) rfl rfl (Nat.le_of_ble_eq_true rfl) ⟨rfl, rfl, by decide, by decide⟩ (jst_a (T_uall ..) ?_)
      refine r_aload_n (pc := 16) C 0 dX6_aimOf_16 rfl rfl ?_
      refine r_aload_n (pc := 17) C 0 dX6_aimOf_17 rfl rfl ?_
      refine r_get (pc := 18) C 0 0 6 dX6_aimOf_18 in_X6 rfl rfl (ci := 6) rfl (by decide) tw_87 rfl rfl ?_
      refine r_iload_n (pc := 21) C 1 dX6_aimOf_21 rfl rfl ?_
      refine r_iaload (pc := 22) C 0 7 dX6_aimOf_22 rfl rfl (by decide) (by omega) ?_
      refine r_aload_n (pc := 23) C 0 dX6_aimOf_23 rfl rfl ?_
      refine r_get (pc := 24) C 0 0 4 dX6_aimOf_24 in_X6 rfl rfl (ci := 6) rfl (by decide) tw_83 rfl rfl ?_
      refine r_iload_n (pc := 27) C 1 dX6_aimOf_27 rfl rfl ?_
      refine r_iaload (pc := 28) C 0 5 dX6_aimOf_28 rfl rfl (by decide) (by omega) ?_
      refine r_aload_n (pc := 29) C 0 dX6_aimOf_29 rfl rfl ?_
      refine r_get (pc := 30) C 0 0 5 dX6_aimOf_30 in_X6 rfl rfl (ci := 6) rfl (by decide) tw_85 rfl rfl ?_
      refine r_iload_n (pc := 33) C 1 dX6_aimOf_33 rfl rfl ?_
      refine r_iaload (pc := 34) C 0 6 dX6_aimOf_34 rfl rfl (by decide) (by omega) ?_
      refine r_callU (pc := 35) (is := [0]) (C0 := RX7) (x := yX1_aim) C YBX7_aim dX6_aimOf_35 tw_482 tw_485 tw_483 tw_511 (by decide +kernel) ⟨by decide +kernel, by decide +kernel⟩ tw_507 tw_510 (c_X7_aim l G _ _ _ _ _ _ (by first | assumption | omega | exact zand_rng _ _ | exact zor_rng _ _ | exact zxor_rng _ _ | exact BT.r (IT.b (by assumption)) _ _) (by first | assumption | omega | exact zand_rng _ _ | exact zor_rng _ _ | exact zxor_rng _ _ | exact BT.r (IT.b (by assumption)) _ _) (by first | assumption | omega | exact zand_rng _ _ | exact zor_rng _ _ | exact zxor_rng _ _ | exact BT.r (IT.b (by assumption)) _ _) (by first | assumption | omega | exact zand_rng _ _ | exact zor_rng _ _ | exact zxor_rng _ _ | exact BT.r (IT.b (by assumption)) _ _)) 0 11 rfl rfl (ci := 7) rfl rfl (by decide) rfl rfl (Nat.le_of_ble_eq_true rfl) ⟨rfl, rfl, by decide, by decide⟩ (jst_i (T_uall ..) ?_)
      exact r_iret (pc := 38) C hQ dX6_aimOf_38 rfl (jst_ri (by unfold sFly sAim; (repeat' split) <;> omega) rfl)
    · skip
      refine r_aload_n (pc := 11) C 0 dX6_aimOf_11 rfl rfl ?_
      refine r_iload_n (pc := 12) C 1 dX6_aimOf_12 rfl rfl ?_
      refine r_callV (pc := 13) (is := [0]) C YX6_kindOf dX6_aimOf_13 tw_427 (c_X6_kindOf3 l G _ _ _ (by first | assumption | omega | exact zand_rng _ _ | exact zor_rng _ _ | exact zxor_rng _ _ | exact BT.r (IT.b (by assumption)) _ _) (by first | assumption | omega | exact zand_rng _ _ | exact zor_rng _ _ | exact zxor_rng _ _ | exact BT.r (IT.b (by assumption)) _ _) (by first | assumption | omega | exact zand_rng _ _ | exact zor_rng _ _ | exact zxor_rng _ _ | exact BT.r (IT.b (by assumption)) _ _)) 0 0 rfl rfl (ci := 6) rfl rfl rfl (by decide) rfl rfl (Nat.le_of_ble_eq_true rfl) ⟨rfl, rfl, by decide, by decide⟩ (jst_a (T_uall ..) ?_)
      refine r_aload_n (pc := 16) C 0 dX6_aimOf_16 rfl rfl ?_
      refine r_aload_n (pc := 17) C 0 dX6_aimOf_17 rfl rfl ?_
      refine r_get (pc := 18) C 0 0 6 dX6_aimOf_18 in_X6 rfl rfl (ci := 6) rfl (by decide) tw_87 rfl rfl ?_
      refine r_iload_n (pc := 21) C 1 dX6_aimOf_21 rfl rfl ?_
      refine r_iaload (pc := 22) C 0 7 dX6_aimOf_22 rfl rfl (by decide) (by omega) ?_
      refine r_aload_n (pc := 23) C 0 dX6_aimOf_23 rfl rfl ?_
      refine r_get (pc := 24) C 0 0 4 dX6_aimOf_24 in_X6 rfl rfl (ci := 6) rfl (by decide) tw_83 rfl rfl ?_
      refine r_iload_n (pc := 27) C 1 dX6_aimOf_27 rfl rfl ?_
      refine r_iaload (pc := 28) C 0 5 dX6_aimOf_28 rfl rfl (by decide) (by omega) ?_
      refine r_aload_n (pc := 29) C 0 dX6_aimOf_29 rfl rfl ?_
      refine r_get (pc := 30) C 0 0 5 dX6_aimOf_30 in_X6 rfl rfl (ci := 6) rfl (by decide) tw_85 rfl rfl ?_
      refine r_iload_n (pc := 33) C 1 dX6_aimOf_33 rfl rfl ?_
      refine r_iaload (pc := 34) C 0 6 dX6_aimOf_34 rfl rfl (by decide) (by omega) ?_
      refine r_callU (pc := 35) (is := [0]) (C0 := RX3) (x := yX1_aim) C YBX3_aim dX6_aimOf_35 tw_482 tw_485 tw_483 tw_511 (by decide +kernel) ⟨by decide +kernel, by decide +kernel⟩ tw_492 tw_491 (c_X3_aim l G _ _ _ _ _ _ (by first | assumption | omega | exact zand_rng _ _ | exact zor_rng _ _ | exact zxor_rng _ _ | exact BT.r (IT.b (by assumption)) _ _) (by first | assumption | omega | exact zand_rng _ _ | exact zor_rng _ _ | exact zxor_rng _ _ | exact BT.r (IT.b (by assumption)) _ _)) 0 12 rfl rfl (ci := 3) rfl rfl (by decide) rfl rfl (Nat.le_of_ble_eq_true rfl) ⟨rfl, rfl, by decide, by decide⟩ (jst_i (T_uall ..) ?_)
      exact r_iret (pc := 38) C hQ dX6_aimOf_38 rfl (jst_ri (by unfold sFly sAim; (repeat' split) <;> omega) rfl)
    · skip
      refine r_aload_n (pc := 11) C 0 dX6_aimOf_11 rfl rfl ?_
      refine r_iload_n (pc := 12) C 1 dX6_aimOf_12 rfl rfl ?_
      refine r_callV (pc := 13) (is := [0]) C YX6_kindOf dX6_aimOf_13 tw_427 (c_X6_kindOf4 l G _ _ _ (by first | assumption | omega | exact zand_rng _ _ | exact zor_rng _ _ | exact zxor_rng _ _ | exact BT.r (IT.b (by assumption)) _ _) (by first | assumption | omega | exact zand_rng _ _ | exact zor_rng _ _ | exact zxor_rng _ _ | exact BT.r (IT.b (by assumption)) _ _) (by first | assumption | omega | exact zand_rng _ _ | exact zor_rng _ _ | exact zxor_rng _ _ | exact BT.r (IT.b (by assumption)) _ _)) 0 0 rfl rfl (ci := 6) rfl rfl rfl (by decide) rfl rfl (Nat.le_of_ble_eq_true rfl) ⟨rfl, rfl, by decide, by decide⟩ (jst_a (T_uall ..) ?_)
      refine r_aload_n (pc := 16) C 0 dX6_aimOf_16 rfl rfl ?_
      refine r_aload_n (pc := 17) C 0 dX6_aimOf_17 rfl rfl ?_
      refine r_get (pc := 18) C 0 0 6 dX6_aimOf_18 in_X6 rfl rfl (ci := 6) rfl (by decide) tw_87 rfl rfl ?_
      refine r_iload_n (pc := 21) C 1 dX6_aimOf_21 rfl rfl ?_
      refine r_iaload (pc := 22) C 0 7 dX6_aimOf_22 rfl rfl (by decide) (by omega) ?_
      refine r_aload_n (pc := 23) C 0 dX6_aimOf_23 rfl rfl ?_
      refine r_get (pc := 24) C 0 0 4 dX6_aimOf_24 in_X6 rfl rfl (ci := 6) rfl (by decide) tw_83 rfl rfl ?_
      refine r_iload_n (pc := 27) C 1 dX6_aimOf_27 rfl rfl ?_
      refine r_iaload (pc := 28) C 0 5 dX6_aimOf_28 rfl rfl (by decide) (by omega) ?_
      refine r_aload_n (pc := 29) C 0 dX6_aimOf_29 rfl rfl ?_
      refine r_get (pc := 30) C 0 0 5 dX6_aimOf_30 in_X6 rfl rfl (ci := 6) rfl (by decide) tw_85 rfl rfl ?_
      refine r_iload_n (pc := 33) C 1 dX6_aimOf_33 rfl rfl ?_
      refine r_iaload (pc := 34) C 0 6 dX6_aimOf_34 rfl rfl (by decide) (by omega) ?_
      refine r_callU (pc := 35) (is := []) (C0 := RX0) (x := yX1_aim) C YBX1_aim dX6_aimOf_35 tw_482 tw_485 tw_483 tw_511 (by decide +kernel) ⟨by decide +kernel, by decide +kernel⟩ tw_483 tw_486 (c_X1_aim l G _ _ _ _ _) 0 13 rfl rfl (ci := 0) rfl rfl (by decide) rfl rfl (Nat.le_of_ble_eq_true rfl) ⟨rfl, rfl, by decide, by decide⟩ (jst_i (ups_nil _) ?_)
      exact r_iret (pc := 38) C hQ dX6_aimOf_38 rfl (jst_ri (by unfold sFly sAim; (repeat' split) <;> omega) rfl)
    · skip
      refine r_aload_n (pc := 11) C 0 dX6_aimOf_11 rfl rfl ?_
      refine r_iload_n (pc := 12) C 1 dX6_aimOf_12 rfl rfl ?_
      refine r_callV (pc := 13) (is := [0]) C YX6_kindOf dX6_aimOf_13 tw_427 (c_X6_kindOf5 l G _ _ _ (by first | assumption | omega | exact zand_rng _ _ | exact zor_rng _ _ | exact zxor_rng _ _ | exact BT.r (IT.b (by assumption)) _ _) (by first | assumption | omega | exact zand_rng _ _ | exact zor_rng _ _ | exact zxor_rng _ _ | exact BT.r (IT.b (by assumption)) _ _) (by first | assumption | omega | exact zand_rng _ _ | exact zor_rng _ _ | exact zxor_rng _ _ | exact BT.r (IT.b (by assumption)) _ _)) 0 0 rfl rfl (ci := 6) rfl rfl rfl (by decide) rfl rfl (Nat.le_of_ble_eq_true rfl) ⟨rfl, rfl, by decide, by decide⟩ (jst_a (T_uall ..) ?_)
      refine r_aload_n (pc := 16) C 0 dX6_aimOf_16 rfl rfl ?_
      refine r_aload_n (pc := 17) C 0 dX6_aimOf_17 rfl rfl ?_
      refine r_get (pc := 18) C 0 0 6 dX6_aimOf_18 in_X6 rfl rfl (ci := 6) rfl (by decide) tw_87 rfl rfl ?_
      refine r_iload_n (pc := 21) C 1 dX6_aimOf_21 rfl rfl ?_
      refine r_iaload (pc := 22) C 0 7 dX6_aimOf_22 rfl rfl (by decide) (by omega) ?_
      refine r_aload_n (pc := 23) C 0 dX6_aimOf_23 rfl rfl ?_
      refine r_get (pc := 24) C 0 0 4 dX6_aimOf_24 in_X6 rfl rfl (ci := 6) rfl (by decide) tw_83 rfl rfl ?_
      refine r_iload_n (pc := 27) C 1 dX6_aimOf_27 rfl rfl ?_
      refine r_iaload (pc := 28) C 0 5 dX6_aimOf_28 rfl rfl (by decide) (by omega) ?_
      refine r_aload_n (pc := 29) C 0 dX6_aimOf_29 rfl rfl ?_
      refine r_get (pc := 30) C 0 0 5 dX6_aimOf_30 in_X6 rfl rfl (ci := 6) rfl (by decide) tw_85 rfl rfl ?_
      refine r_iload_n (pc := 33) C 1 dX6_aimOf_33 rfl rfl ?_
      refine r_iaload (pc := 34) C 0 6 dX6_aimOf_34 rfl rfl (by decide) (by omega) ?_
      refine r_callU (pc := 35) (is := [0]) (C0 := RX4) (x := yX1_aim) C YBX4_aim dX6_aimOf_35 tw_482 tw_485 tw_483 tw_511 (by decide +kernel) ⟨by decide +kernel, by decide +kernel⟩ tw_503 tw_502 (c_X4_aim l G _ _ _ _ _ (by first | assumption | omega | exact zand_rng _ _ | exact zor_rng _ _ | exact zxor_rng _ _ | exact BT.r (IT.b (by assumption)) _ _) (by first | assumption | omega | exact zand_rng _ _ | exact zor_rng _ _ | exact zxor_rng _ _ | exact BT.r (IT.b (by assumption)) _ _) (by first | assumption | omega | exact zand_rng _ _ | exact zor_rng _ _ | exact zxor_rng _ _ | exact BT.r (IT.b (by assumption)) _ _) (by first | assumption | omega | exact zand_rng _ _ | exact zor_rng _ _ | exact zxor_rng _ _ | exact BT.r (IT.b (by assumption)) _ _)) 0 14 rfl rfl (ci := 4) rfl rfl (by decide) rfl rfl (Nat.le_of_ble_eq_true rfl) ⟨rfl, rfl, by decide, by decide⟩ (jst_i (T_uall ..) ?_)
      exact r_iret (pc := 38) C hQ dX6_aimOf_38 rfl (jst_ri (by unfold sFly sAim; (repeat' split) <;> omega) rfl)
  · refine r_bipush (pc := 8) C dX6_aimOf_8 (by decide) ?_
    exact r_iret (pc := 10) C hQ dX6_aimOf_10 rfl (jst_ri (by unfold sFly sAim; (repeat' split) <;> omega) rfl)

set_option maxRecDepth 100000 in
set_option maxHeartbeats 4000000 in
theorem c_X6_placeIfLetGo (l : Launch) (G : GT) (h : Nat → Nat) (T : Tn) (d : Int) (hI : IT T) (hd : 0 ≤ d ∧ d < T 0 1) : Cn l yX6_placeIfLetGo cX6_placeIfLetGo 3 (Option.some .int) ({ frames := 4, cells := 0, slots := 0, locals := 94 }) G [.ref (h 0), .int (iI d)] (wT G h T) (jst (some (.int (iI (if sFly T d = 9 then T 6 d else sFly T d)))) (wT G h T)) := by
  refine Cn_in RX6 [some (.ref (h 0)), some (.int (iI d)), none] (by decide +kernel) rfl rfl rfl (Nat.le_of_ble_eq_true rfl) (fun K C hQ => ?_)
  have hBB := hI.b
  have hLL := hI.L
  have hDD := hI.D
  have hdd := hI.d hd.1 hd.2
  have hff := sFly_r hI hd.1 hd.2
  refine r_aload_n (pc := 0) C 0 dX6_placeIfLetGo_0 rfl rfl ?_
  refine r_iload_n (pc := 1) C 1 dX6_placeIfLetGo_1 rfl rfl ?_
  refine r_callV (pc := 2) (is := [0]) C YX6_aimOf dX6_placeIfLetGo_2 tw_538 (c_X6_aimOf l G _ _ _ (by first | assumption | omega | exact zand_rng _ _ | exact zor_rng _ _ | exact zxor_rng _ _ | exact BT.r (IT.b (by assumption)) _ _) (by first | assumption | omega | exact zand_rng _ _ | exact zor_rng _ _ | exact zxor_rng _ _ | exact BT.r (IT.b (by assumption)) _ _)) 0 0 rfl rfl (ci := 6) rfl rfl rfl (by decide) rfl rfl (Nat.le_of_ble_eq_true rfl) ⟨rfl, rfl, by decide, by decide⟩ (jst_i (T_uall ..) ?_)
  refine r_istore_n (pc := 5) C 2 dX6_placeIfLetGo_5 rfl (Nat.le_of_ble_eq_true rfl) ?_
  refine r_iload_n (pc := 6) C 2 dX6_placeIfLetGo_6 rfl rfl ?_
  refine r_bipush (pc := 7) C dX6_placeIfLetGo_7 (by decide) ?_
  refine r_icmp_eq (pc := 9) (tgt := 14) C dX6_placeIfLetGo_9 (by decide) (by first | omega | exact zand_rng _ _ | exact zor_rng _ _ | exact zxor_rng _ _ | exact BT.r (IT.b (by assumption)) _ _) (by first | omega | exact zand_rng _ _ | exact zor_rng _ _ | exact zxor_rng _ _ | exact BT.r (IT.b (by assumption)) _ _) (fun c9 => ?_) (fun c9 => ?_)
  · refine r_aload_n (pc := 14) C 0 dX6_placeIfLetGo_14 rfl rfl ?_
    refine r_iload_n (pc := 15) C 1 dX6_placeIfLetGo_15 rfl rfl ?_
    refine r_callV (pc := 16) (is := [0]) C YX6_hasDove dX6_placeIfLetGo_16 tw_423 (c_X6_hasDove l G _ _ _ (by first | assumption | omega | exact zand_rng _ _ | exact zor_rng _ _ | exact zxor_rng _ _ | exact BT.r (IT.b (by assumption)) _ _) (by first | assumption | omega | exact zand_rng _ _ | exact zor_rng _ _ | exact zxor_rng _ _ | exact BT.r (IT.b (by assumption)) _ _)) 0 0 rfl rfl (ci := 6) rfl rfl rfl (by decide) rfl rfl (Nat.le_of_ble_eq_true rfl) ⟨rfl, rfl, by decide, by decide⟩ (jst_i (T_uall ..) ?_)
    refine r_ifb_eq (pc := 19) (tgt := 31) C dX6_placeIfLetGo_19 (by decide) (fun c19 => absurd c19 (by omega)) (fun c19 => ?_)
    refine r_aload_n (pc := 22) C 0 dX6_placeIfLetGo_22 rfl rfl ?_
    refine r_get (pc := 23) C 0 0 6 dX6_placeIfLetGo_23 in_X6 rfl rfl (ci := 6) rfl (by decide) tw_87 rfl rfl ?_
    refine r_iload_n (pc := 26) C 1 dX6_placeIfLetGo_26 rfl rfl ?_
    refine r_iaload (pc := 27) C 0 7 dX6_placeIfLetGo_27 rfl rfl (by decide) (by omega) ?_
    refine r_goto (pc := 28) (tgt := 33) C dX6_placeIfLetGo_28 (by decide) ?_
    exact r_iret (pc := 33) C hQ dX6_placeIfLetGo_33 rfl (jst_ri (by first | rw [if_pos (by omega)] | rw [if_neg (by omega)]) rfl)
  · refine r_iload_n (pc := 12) C 2 dX6_placeIfLetGo_12 rfl rfl ?_
    exact r_iret (pc := 13) C hQ dX6_placeIfLetGo_13 rfl (jst_ri (by first | rw [if_pos (by omega)] | rw [if_neg (by omega)]) rfl)

set_option maxRecDepth 100000 in
set_option maxHeartbeats 4000000 in
theorem c_X6_mayFly (l : Launch) (G : GT) (h : Nat → Nat) (T : Tn) (d : Int) (hI : IT T) (hd : 0 ≤ d ∧ d < T 0 1) : Cn l yX6_mayFly cX6_mayFly 2 (Option.some .boolean) ({ frames := 2, cells := 0, slots := 0, locals := 42 }) G [.ref (h 0), .int (iI d)] (wT G h T) (jst (some (.int (iI (zb (T 6 d ≠ 9 ∧ T 7 d = 0 ∧ zbit (T 0 2) (T 6 d) = 1))))) (wT G h T)) := by
  refine Cn_in RX6 [some (.ref (h 0)), some (.int (iI d))] (by decide +kernel) rfl rfl rfl (Nat.le_of_ble_eq_true rfl) (fun K C hQ => ?_)
  have hBB := hI.b
  have hLL := hI.L
  have hDD := hI.D
  have hdd := hI.d hd.1 hd.2
  refine r_aload_n (pc := 0) C 0 dX6_mayFly_0 rfl rfl ?_
  refine r_iload_n (pc := 1) C 1 dX6_mayFly_1 rfl rfl ?_
  refine r_callV (pc := 2) (is := [0]) C YX6_isLost dX6_mayFly_2 tw_468 (c_X6_isLost l G _ _ _ (by first | assumption | omega | exact zand_rng _ _ | exact zor_rng _ _ | exact zxor_rng _ _ | exact BT.r (IT.b (by assumption)) _ _) (by first | assumption | omega | exact zand_rng _ _ | exact zor_rng _ _ | exact zxor_rng _ _ | exact BT.r (IT.b (by assumption)) _ _)) 0 0 rfl rfl (ci := 6) rfl rfl rfl (by decide) rfl rfl (Nat.le_of_ble_eq_true rfl) ⟨rfl, rfl, by decide, by decide⟩ (jst_i (T_uall ..) ?_)
  refine r_ifb_ne (pc := 5) (tgt := 34) C dX6_mayFly_5 (by decide) (fun c5 => ?_) (fun c5 => ?_)
  · refine r_iconst (pc := 34) C dX6_mayFly_34 ?_
    exact r_zret (pc := 35) C hQ dX6_mayFly_35 (by decide) rfl (jst_ri (by exact (zb_f (by omega)).symm) rfl)
  · refine r_aload_n (pc := 8) C 0 dX6_mayFly_8 rfl rfl ?_
    refine r_get (pc := 9) C 0 0 7 dX6_mayFly_9 in_X6 rfl rfl (ci := 6) rfl (by decide) tw_89 rfl rfl ?_
    refine r_iload_n (pc := 12) C 1 dX6_mayFly_12 rfl rfl ?_
    refine r_iaload (pc := 13) C 0 8 dX6_mayFly_13 rfl rfl (by decide) (by omega) ?_
    refine r_if_ne (pc := 14) (tgt := 34) C dX6_mayFly_14 (by decide) (by first | omega | exact zand_rng _ _ | exact zor_rng _ _ | exact zxor_rng _ _ | exact BT.r (IT.b (by assumption)) _ _) (fun c14 => ?_) (fun c14 => ?_)
    · refine r_iconst (pc := 34) C dX6_mayFly_34 ?_
      exact r_zret (pc := 35) C hQ dX6_mayFly_35 (by decide) rfl (jst_ri (by exact (zb_f (by omega)).symm) rfl)
    · refine r_aload_n (pc := 17) C 0 dX6_mayFly_17 rfl rfl ?_
      refine r_aload_n (pc := 18) C 0 dX6_mayFly_18 rfl rfl ?_
      refine r_get (pc := 19) C 0 0 6 dX6_mayFly_19 in_X6 rfl rfl (ci := 6) rfl (by decide) tw_87 rfl rfl ?_
      refine r_iload_n (pc := 22) C 1 dX6_mayFly_22 rfl rfl ?_
      refine r_iaload (pc := 23) C 0 7 dX6_mayFly_23 rfl rfl (by decide) (by omega) ?_
      refine r_callV (pc := 24) (is := [0]) C YX6_isOpen dX6_mayFly_24 tw_555 (c_X6_isOpen l G _ _ _ (by first | assumption | omega | exact zand_rng _ _ | exact zor_rng _ _ | exact zxor_rng _ _ | exact BT.r (IT.b (by assumption)) _ _) (by first | assumption | omega | exact zand_rng _ _ | exact zor_rng _ _ | exact zxor_rng _ _ | exact BT.r (IT.b (by assumption)) _ _)) 0 0 rfl rfl (ci := 6) rfl rfl rfl (by decide) rfl rfl (Nat.le_of_ble_eq_true rfl) ⟨rfl, rfl, by decide, by decide⟩ (jst_i (T_uall ..) ?_)
      refine r_ifb_eq (pc := 27) (tgt := 34) C dX6_mayFly_27 (by decide) (fun c27 => ?_) (fun c27 => ?_)
      · refine r_iconst (pc := 34) C dX6_mayFly_34 ?_
        exact r_zret (pc := 35) C hQ dX6_mayFly_35 (by decide) rfl (jst_ri (by exact (zb_f (by omega)).symm) rfl)
      · refine r_iconst (pc := 30) C dX6_mayFly_30 ?_
        refine r_goto (pc := 31) (tgt := 35) C dX6_mayFly_31 (by decide) ?_
        exact r_zret (pc := 35) C hQ dX6_mayFly_35 (by decide) rfl (jst_ri (by exact (zb_t (by omega)).symm) rfl)

set_option maxRecDepth 100000 in
set_option maxHeartbeats 4000000 in
theorem c_X6_dovesIn (l : Launch) (G : GT) (h : Nat → Nat) (T : Tn) (q : Int) (hI : IT T) (gq : -2147483648 ≤ q ∧ q < 2147483648) : Cn l yX6_dovesIn cX6_dovesIn 4 (Option.some .int) ({ frames := 0, cells := 0, slots := 0, locals := 0 }) G [.ref (h 0), .int (iI q)] (wT G h T) (jst (some (.int (iI (sMask (fun d => T 6 d = q) (T 0 1))))) (wT G h T)) := by
  refine Cn_in RX6 [some (.ref (h 0)), some (.int (iI q)), none, none] (by decide +kernel) rfl rfl rfl (Nat.le_of_ble_eq_true rfl) (fun K C hQ => ?_)
  have hBB := hI.b
  have hLL := hI.L
  have hDD := hI.D
  refine r_iconst (pc := 0) C dX6_dovesIn_0 ?_
  refine r_istore_n (pc := 1) C 2 dX6_dovesIn_1 rfl (Nat.le_of_ble_eq_true rfl) ?_
  refine r_iconst (pc := 2) C dX6_dovesIn_2 ?_
  refine r_istore_n (pc := 3) C 3 dX6_dovesIn_3 rfl (Nat.le_of_ble_eq_true rfl) ?_
  have L4 : ∀ (n : Nat) (i : Int), 0 ≤ i → i ≤ T 0 1 → T 0 1 < i + n → Wc K G 4 [some (.ref (h 0)), some (.int (iI q)), some (.int (iI (sMask (fun d => T 6 d = q) i))), some (.int (iI i))] [] (wT G h T) := by
    intro n
    induction n with
    | zero =>
      intro i h0 h1 hn; omega
    | succ n ih =>
      intro i h0 h1 hn 
      refine r_iload_n (pc := 4) C 3 dX6_dovesIn_4 rfl rfl ?_
      refine r_aload_n (pc := 5) C 0 dX6_dovesIn_5 rfl rfl ?_
      refine r_get (pc := 6) C 0 0 9 dX6_dovesIn_6 in_X6 rfl rfl (ci := 6) rfl (by decide) tw_93 rfl rfl ?_
      refine r_icmp_ge (pc := 9) (tgt := 34) C dX6_dovesIn_9 (by decide) (by first | omega | exact BT.r (IT.b (by assumption)) _ _ | exact gq) (by first | omega | exact BT.r (IT.b (by assumption)) _ _ | exact gq) (fun c9 => ?_) (fun c9 => ?_)
      · refine r_iload_n (pc := 34) C 2 dX6_dovesIn_34 rfl rfl ?_
        exact r_iret (pc := 35) C hQ dX6_dovesIn_35 rfl (jst_ri (by rw [show T 0 1 = i by omega]) rfl)
      · refine r_aload_n (pc := 12) C 0 dX6_dovesIn_12 rfl rfl ?_
        refine r_get (pc := 13) C 0 0 6 dX6_dovesIn_13 in_X6 rfl rfl (ci := 6) rfl (by decide) tw_87 rfl rfl ?_
        refine r_iload_n (pc := 16) C 3 dX6_dovesIn_16 rfl rfl ?_
        refine r_iaload (pc := 17) C 0 7 dX6_dovesIn_17 rfl rfl (by decide) (by omega) ?_
        refine r_iload_n (pc := 18) C 1 dX6_dovesIn_18 rfl rfl ?_
        refine r_icmp_ne (pc := 19) (tgt := 28) C dX6_dovesIn_19 (by decide) (by first | omega | exact BT.r (IT.b (by assumption)) _ _ | exact gq) (by first | omega | exact BT.r (IT.b (by assumption)) _ _ | exact gq) (fun c19 => ?_) (fun c19 => ?_)
        · refine r_iinc (pc := 28) C dX6_dovesIn_28 rfl ?_
          refine r_goto (pc := 31) (tgt := 4) C dX6_dovesIn_31 (by decide) ?_
          refine Wc.to (ih (i + 1) (by omega) (by omega) (by omega) ) rfl (lsub_s (by first | rfl | (rw [sMask_s _ h0]; first | (rw [if_pos (by omega), sMask_or _ h0 (by omega)]; done) | (rw [if_neg (by omega), Int.add_zero]; done))) (lsub_s (by first | rfl | (rw [sMask_s _ h0]; first | (rw [if_pos (by omega), sMask_or _ h0 (by omega)]; done) | (rw [if_neg (by omega), Int.add_zero]; done))) (lsub_s (by first | rfl | (rw [sMask_s _ h0]; first | (rw [if_pos (by omega), sMask_or _ h0 (by omega)]; done) | (rw [if_neg (by omega), Int.add_zero]; done))) (lsub_s (by first | rfl | (rw [sMask_s _ h0]; first | (rw [if_pos (by omega), sMask_or _ h0 (by omega)]; done) | (rw [if_neg (by omega), Int.add_zero]; done))) lsub_0)))) (by rfl)
        · refine r_iload_n (pc := 22) C 2 dX6_dovesIn_22 rfl rfl ?_
          refine r_iconst (pc := 23) C dX6_dovesIn_23 ?_
          refine r_iload_n (pc := 24) C 3 dX6_dovesIn_24 rfl rfl ?_
          refine r_ishl (pc := 25) C dX6_dovesIn_25 (by omega) ?_
          refine r_ior (pc := 26) C dX6_dovesIn_26 ?_
          refine r_istore_n (pc := 27) C 2 dX6_dovesIn_27 rfl (Nat.le_of_ble_eq_true rfl) ?_
          refine r_iinc (pc := 28) C dX6_dovesIn_28 rfl ?_
          refine r_goto (pc := 31) (tgt := 4) C dX6_dovesIn_31 (by decide) ?_
          refine Wc.to (ih (i + 1) (by omega) (by omega) (by omega) ) rfl (lsub_s (by first | rfl | (rw [sMask_s _ h0]; first | (rw [if_pos (by omega), sMask_or _ h0 (by omega)]; done) | (rw [if_neg (by omega), Int.add_zero]; done))) (lsub_s (by first | rfl | (rw [sMask_s _ h0]; first | (rw [if_pos (by omega), sMask_or _ h0 (by omega)]; done) | (rw [if_neg (by omega), Int.add_zero]; done))) (lsub_s (by first | rfl | (rw [sMask_s _ h0]; first | (rw [if_pos (by omega), sMask_or _ h0 (by omega)]; done) | (rw [if_neg (by omega), Int.add_zero]; done))) (lsub_s (by first | rfl | (rw [sMask_s _ h0]; first | (rw [if_pos (by omega), sMask_or _ h0 (by omega)]; done) | (rw [if_neg (by omega), Int.add_zero]; done))) lsub_0)))) (by rfl)
  refine Wc.to (L4 ((T 0 1 - (0)).toNat + 1) (0) (by omega) (by omega) (by omega) ) rfl (lsub_s rfl (lsub_s rfl (lsub_s rfl (lsub_s rfl lsub_0)))) (by rfl)

set_option maxRecDepth 100000 in
set_option maxHeartbeats 4000000 in
theorem c_X6_dovesHatchedIn (l : Launch) (G : GT) (h : Nat → Nat) (T : Tn) (q : Int) (hI : IT T) (gq : -2147483648 ≤ q ∧ q < 2147483648) : Cn l yX6_dovesHatchedIn cX6_dovesHatchedIn 4 (Option.some .int) ({ frames := 0, cells := 0, slots := 0, locals := 0 }) G [.ref (h 0), .int (iI q)] (wT G h T) (jst (some (.int (iI (sMask (fun d => T 4 d = q) (T 0 1))))) (wT G h T)) := by
  refine Cn_in RX6 [some (.ref (h 0)), some (.int (iI q)), none, none] (by decide +kernel) rfl rfl rfl (Nat.le_of_ble_eq_true rfl) (fun K C hQ => ?_)
  have hBB := hI.b
  have hLL := hI.L
  have hDD := hI.D
  refine r_iconst (pc := 0) C dX6_dovesHatchedIn_0 ?_
  refine r_istore_n (pc := 1) C 2 dX6_dovesHatchedIn_1 rfl (Nat.le_of_ble_eq_true rfl) ?_
  refine r_iconst (pc := 2) C dX6_dovesHatchedIn_2 ?_
  refine r_istore_n (pc := 3) C 3 dX6_dovesHatchedIn_3 rfl (Nat.le_of_ble_eq_true rfl) ?_
  have L4 : ∀ (n : Nat) (i : Int), 0 ≤ i → i ≤ T 0 1 → T 0 1 < i + n → Wc K G 4 [some (.ref (h 0)), some (.int (iI q)), some (.int (iI (sMask (fun d => T 4 d = q) i))), some (.int (iI i))] [] (wT G h T) := by
    intro n
    induction n with
    | zero =>
      intro i h0 h1 hn; omega
    | succ n ih =>
      intro i h0 h1 hn 
      refine r_iload_n (pc := 4) C 3 dX6_dovesHatchedIn_4 rfl rfl ?_
      refine r_aload_n (pc := 5) C 0 dX6_dovesHatchedIn_5 rfl rfl ?_
      refine r_get (pc := 6) C 0 0 9 dX6_dovesHatchedIn_6 in_X6 rfl rfl (ci := 6) rfl (by decide) tw_93 rfl rfl ?_
      refine r_icmp_ge (pc := 9) (tgt := 34) C dX6_dovesHatchedIn_9 (by decide) (by first | omega | exact BT.r (IT.b (by assumption)) _ _ | exact gq) (by first | omega | exact BT.r (IT.b (by assumption)) _ _ | exact gq) (fun c9 => ?_) (fun c9 => ?_)
      · refine r_iload_n (pc := 34) C 2 dX6_dovesHatchedIn_34 rfl rfl ?_
        exact r_iret (pc := 35) C hQ dX6_dovesHatchedIn_35 rfl (jst_ri (by rw [show T 0 1 = i by omega]) rfl)
      · refine r_aload_n (pc := 12) C 0 dX6_dovesHatchedIn_12 rfl rfl ?_
        refine r_get (pc := 13) C 0 0 4 dX6_dovesHatchedIn_13 in_X6 rfl rfl (ci := 6) rfl (by decide) tw_83 rfl rfl ?_
        refine r_iload_n (pc := 16) C 3 dX6_dovesHatchedIn_16 rfl rfl ?_
        refine r_iaload (pc := 17) C 0 5 dX6_dovesHatchedIn_17 rfl rfl (by decide) (by omega) ?_
        refine r_iload_n (pc := 18) C 1 dX6_dovesHatchedIn_18 rfl rfl ?_
        refine r_icmp_ne (pc := 19) (tgt := 28) C dX6_dovesHatchedIn_19 (by decide) (by first | omega | exact BT.r (IT.b (by assumption)) _ _ | exact gq) (by first | omega | exact BT.r (IT.b (by assumption)) _ _ | exact gq) (fun c19 => ?_) (fun c19 => ?_)
        · refine r_iinc (pc := 28) C dX6_dovesHatchedIn_28 rfl ?_
          refine r_goto (pc := 31) (tgt := 4) C dX6_dovesHatchedIn_31 (by decide) ?_
          refine Wc.to (ih (i + 1) (by omega) (by omega) (by omega) ) rfl (lsub_s (by first | rfl | (rw [sMask_s _ h0]; first | (rw [if_pos (by omega), sMask_or _ h0 (by omega)]; done) | (rw [if_neg (by omega), Int.add_zero]; done))) (lsub_s (by first | rfl | (rw [sMask_s _ h0]; first | (rw [if_pos (by omega), sMask_or _ h0 (by omega)]; done) | (rw [if_neg (by omega), Int.add_zero]; done))) (lsub_s (by first | rfl | (rw [sMask_s _ h0]; first | (rw [if_pos (by omega), sMask_or _ h0 (by omega)]; done) | (rw [if_neg (by omega), Int.add_zero]; done))) (lsub_s (by first | rfl | (rw [sMask_s _ h0]; first | (rw [if_pos (by omega), sMask_or _ h0 (by omega)]; done) | (rw [if_neg (by omega), Int.add_zero]; done))) lsub_0)))) (by rfl)
        · refine r_iload_n (pc := 22) C 2 dX6_dovesHatchedIn_22 rfl rfl ?_
          refine r_iconst (pc := 23) C dX6_dovesHatchedIn_23 ?_
          refine r_iload_n (pc := 24) C 3 dX6_dovesHatchedIn_24 rfl rfl ?_
          refine r_ishl (pc := 25) C dX6_dovesHatchedIn_25 (by omega) ?_
          refine r_ior (pc := 26) C dX6_dovesHatchedIn_26 ?_
          refine r_istore_n (pc := 27) C 2 dX6_dovesHatchedIn_27 rfl (Nat.le_of_ble_eq_true rfl) ?_
          refine r_iinc (pc := 28) C dX6_dovesHatchedIn_28 rfl ?_
          refine r_goto (pc := 31) (tgt := 4) C dX6_dovesHatchedIn_31 (by decide) ?_
          refine Wc.to (ih (i + 1) (by omega) (by omega) (by omega) ) rfl (lsub_s (by first | rfl | (rw [sMask_s _ h0]; first | (rw [if_pos (by omega), sMask_or _ h0 (by omega)]; done) | (rw [if_neg (by omega), Int.add_zero]; done))) (lsub_s (by first | rfl | (rw [sMask_s _ h0]; first | (rw [if_pos (by omega), sMask_or _ h0 (by omega)]; done) | (rw [if_neg (by omega), Int.add_zero]; done))) (lsub_s (by first | rfl | (rw [sMask_s _ h0]; first | (rw [if_pos (by omega), sMask_or _ h0 (by omega)]; done) | (rw [if_neg (by omega), Int.add_zero]; done))) (lsub_s (by first | rfl | (rw [sMask_s _ h0]; first | (rw [if_pos (by omega), sMask_or _ h0 (by omega)]; done) | (rw [if_neg (by omega), Int.add_zero]; done))) lsub_0)))) (by rfl)
  refine Wc.to (L4 ((T 0 1 - (0)).toNat + 1) (0) (by omega) (by omega) (by omega) ) rfl (lsub_s rfl (lsub_s rfl (lsub_s rfl (lsub_s rfl lsub_0)))) (by rfl)

set_option maxRecDepth 100000 in
set_option maxHeartbeats 4000000 in
theorem c_X6_dovesNotLost (l : Launch) (G : GT) (h : Nat → Nat) (T : Tn) (hI : IT T) : Cn l yX6_dovesNotLost cX6_dovesNotLost 3 (Option.some .int) ({ frames := 2, cells := 0, slots := 0, locals := 42 }) G [.ref (h 0)] (wT G h T) (jst (some (.int (iI (sMask (fun d => T 6 d ≠ 9) (T 0 1))))) (wT G h T)) := by
  refine Cn_in RX6 [some (.ref (h 0)), none, none] (by decide +kernel) rfl rfl rfl (Nat.le_of_ble_eq_true rfl) (fun K C hQ => ?_)
  have hBB := hI.b
  have hLL := hI.L
  have hDD := hI.D
  refine r_iconst (pc := 0) C dX6_dovesNotLost_0 ?_
  refine r_istore_n (pc := 1) C 1 dX6_dovesNotLost_1 rfl (Nat.le_of_ble_eq_true rfl) ?_
  refine r_iconst (pc := 2) C dX6_dovesNotLost_2 ?_
  refine r_istore_n (pc := 3) C 2 dX6_dovesNotLost_3 rfl (Nat.le_of_ble_eq_true rfl) ?_
  have L4 : ∀ (n : Nat) (i : Int), 0 ≤ i → i ≤ T 0 1 → T 0 1 < i + n → Wc K G 4 [some (.ref (h 0)), some (.int (iI (sMask (fun d => T 6 d ≠ 9) i))), some (.int (iI i))] [] (wT G h T) := by
    intro n
    induction n with
    | zero =>
      intro i h0 h1 hn; omega
    | succ n ih =>
      intro i h0 h1 hn 
      refine r_iload_n (pc := 4) C 2 dX6_dovesNotLost_4 rfl rfl ?_
      refine r_aload_n (pc := 5) C 0 dX6_dovesNotLost_5 rfl rfl ?_
      refine r_get (pc := 6) C 0 0 9 dX6_dovesNotLost_6 in_X6 rfl rfl (ci := 6) rfl (by decide) tw_93 rfl rfl ?_
      refine r_icmp_ge (pc := 9) (tgt := 32) C dX6_dovesNotLost_9 (by decide) (by first | omega | exact zand_rng _ _ | exact zor_rng _ _ | exact zxor_rng _ _ | exact BT.r (IT.b (by assumption)) _ _) (by first | omega | exact zand_rng _ _ | exact zor_rng _ _ | exact zxor_rng _ _ | exact BT.r (IT.b (by assumption)) _ _) (fun c9 => ?_) (fun c9 => ?_)
      · refine r_iload_n (pc := 32) C 1 dX6_dovesNotLost_32 rfl rfl ?_
        exact r_iret (pc := 33) C hQ dX6_dovesNotLost_33 rfl (jst_ri (by rw [show T 0 1 = i by omega]) rfl)
      · refine r_aload_n (pc := 12) C 0 dX6_dovesNotLost_12 rfl rfl ?_
        refine r_iload_n (pc := 13) C 2 dX6_dovesNotLost_13 rfl rfl ?_
        refine r_callV (pc := 14) (is := [0]) C YX6_isLost dX6_dovesNotLost_14 tw_468 (c_X6_isLost l G _ _ _ (by first | assumption | omega | exact zand_rng _ _ | exact zor_rng _ _ | exact zxor_rng _ _ | exact BT.r (IT.b (by assumption)) _ _) (by first | assumption | omega | exact zand_rng _ _ | exact zor_rng _ _ | exact zxor_rng _ _ | exact BT.r (IT.b (by assumption)) _ _)) 0 0 rfl rfl (ci := 6) rfl rfl rfl (by decide) rfl rfl (Nat.le_of_ble_eq_true rfl) ⟨rfl, rfl, by decide, by decide⟩ (jst_i (T_uall ..) ?_)
        refine r_ifb_ne (pc := 17) (tgt := 26) C dX6_dovesNotLost_17 (by decide) (fun c17 => ?_) (fun c17 => ?_)
        · refine r_iinc (pc := 26) C dX6_dovesNotLost_26 rfl ?_
          refine r_goto (pc := 29) (tgt := 4) C dX6_dovesNotLost_29 (by decide) ?_
          refine Wc.to (ih (i + 1) (by omega) (by omega) (by omega) ) rfl (lsub_s (by first | rfl | (rw [sMask_s _ h0]; first | (rw [if_pos (by omega), sMask_or _ h0 (by omega)]; done) | (rw [if_neg (by omega), Int.add_zero]; done))) (lsub_s (by first | rfl | (rw [sMask_s _ h0]; first | (rw [if_pos (by omega), sMask_or _ h0 (by omega)]; done) | (rw [if_neg (by omega), Int.add_zero]; done))) (lsub_s (by first | rfl | (rw [sMask_s _ h0]; first | (rw [if_pos (by omega), sMask_or _ h0 (by omega)]; done) | (rw [if_neg (by omega), Int.add_zero]; done))) lsub_0))) (by rfl)
        · refine r_iload_n (pc := 20) C 1 dX6_dovesNotLost_20 rfl rfl ?_
          refine r_iconst (pc := 21) C dX6_dovesNotLost_21 ?_
          refine r_iload_n (pc := 22) C 2 dX6_dovesNotLost_22 rfl rfl ?_
          refine r_ishl (pc := 23) C dX6_dovesNotLost_23 (by omega) ?_
          refine r_ior (pc := 24) C dX6_dovesNotLost_24 ?_
          refine r_istore_n (pc := 25) C 1 dX6_dovesNotLost_25 rfl (Nat.le_of_ble_eq_true rfl) ?_
          refine r_iinc (pc := 26) C dX6_dovesNotLost_26 rfl ?_
          refine r_goto (pc := 29) (tgt := 4) C dX6_dovesNotLost_29 (by decide) ?_
          refine Wc.to (ih (i + 1) (by omega) (by omega) (by omega) ) rfl (lsub_s (by first | rfl | (rw [sMask_s _ h0]; first | (rw [if_pos (by omega), sMask_or _ h0 (by omega)]; done) | (rw [if_neg (by omega), Int.add_zero]; done))) (lsub_s (by first | rfl | (rw [sMask_s _ h0]; first | (rw [if_pos (by omega), sMask_or _ h0 (by omega)]; done) | (rw [if_neg (by omega), Int.add_zero]; done))) (lsub_s (by first | rfl | (rw [sMask_s _ h0]; first | (rw [if_pos (by omega), sMask_or _ h0 (by omega)]; done) | (rw [if_neg (by omega), Int.add_zero]; done))) lsub_0))) (by rfl)
  refine Wc.to (L4 ((T 0 1 - (0)).toNat + 1) (0) (by omega) (by omega) (by omega) ) rfl (lsub_s rfl (lsub_s rfl (lsub_s rfl lsub_0))) (by rfl)

set_option maxRecDepth 100000 in
set_option maxHeartbeats 4000000 in
theorem c_X6_worthOfAll (l : Launch) (G : GT) (h : Nat → Nat) (T : Tn) (s : Int) (hI : IT T) (gs : -2147483648 ≤ s ∧ s < 2147483648) : Cn l yX6_worthOfAll cX6_worthOfAll 4 (Option.some .int) ({ frames := 4, cells := 0, slots := 0, locals := 84 }) G [.ref (h 0), .int (iI s)] (wT G h T) (jst (some (.int (iI (sWorth T s (T 0 1))))) (wT G h T)) := by
  refine Cn_in RX6 [some (.ref (h 0)), some (.int (iI s)), none, none] (by decide +kernel) rfl rfl rfl (Nat.le_of_ble_eq_true rfl) (fun K C hQ => ?_)
  have hBB := hI.b
  have hLL := hI.L
  have hDD := hI.D
  refine r_iconst (pc := 0) C dX6_worthOfAll_0 ?_
  refine r_istore_n (pc := 1) C 2 dX6_worthOfAll_1 rfl (Nat.le_of_ble_eq_true rfl) ?_
  refine r_iconst (pc := 2) C dX6_worthOfAll_2 ?_
  refine r_istore_n (pc := 3) C 3 dX6_worthOfAll_3 rfl (Nat.le_of_ble_eq_true rfl) ?_
  have L4 : ∀ (n : Nat) (i : Int), 0 ≤ i → i ≤ T 0 1 → T 0 1 < i + n → Wc K G 4 [some (.ref (h 0)), some (.int (iI s)), some (.int (iI (sWorth T s i))), some (.int (iI i))] [] (wT G h T) := by
    intro n
    induction n with
    | zero =>
      intro i h0 h1 hn; omega
    | succ n ih =>
      intro i h0 h1 hn 
      refine r_iload_n (pc := 4) C 3 dX6_worthOfAll_4 rfl rfl ?_
      refine r_aload_n (pc := 5) C 0 dX6_worthOfAll_5 rfl rfl ?_
      refine r_get (pc := 6) C 0 0 9 dX6_worthOfAll_6 in_X6 rfl rfl (ci := 6) rfl (by decide) tw_93 rfl rfl ?_
      refine r_icmp_ge (pc := 9) (tgt := 34) C dX6_worthOfAll_9 (by decide) (by first | omega | exact zand_rng _ _ | exact zor_rng _ _ | exact zxor_rng _ _ | exact BT.r (IT.b (by assumption)) _ _) (by first | omega | exact zand_rng _ _ | exact zor_rng _ _ | exact zxor_rng _ _ | exact BT.r (IT.b (by assumption)) _ _) (fun c9 => ?_) (fun c9 => ?_)
      · refine r_iload_n (pc := 34) C 2 dX6_worthOfAll_34 rfl rfl ?_
        exact r_iret (pc := 35) C hQ dX6_worthOfAll_35 rfl (jst_ri (by rw [show T 0 1 = i by omega]) rfl)
      · refine r_iload_n (pc := 12) C 1 dX6_worthOfAll_12 rfl rfl ?_
        refine r_iload_n (pc := 13) C 3 dX6_worthOfAll_13 rfl rfl ?_
        refine r_callN (pc := 14) (is := []) C YX8_isIn dX6_worthOfAll_14 tw_404 (c_X8_isIn l G _ _ (by first | assumption | omega | exact zand_rng _ _ | exact zor_rng _ _ | exact zxor_rng _ _ | exact BT.r (IT.b (by assumption)) _ _) (by first | assumption | omega | exact zand_rng _ _ | exact zor_rng _ _ | exact zxor_rng _ _ | exact BT.r (IT.b (by assumption)) _ _)) rfl (by decide) rfl rfl (Nat.le_of_ble_eq_true rfl) ⟨rfl, rfl, by decide, by decide⟩ (jst_i (ups_nil _) ?_)
        refine r_ifb_eq (pc := 17) (tgt := 28) C dX6_worthOfAll_17 (by decide) (fun c17 => ?_) (fun c17 => ?_)
        · refine r_iinc (pc := 28) C dX6_worthOfAll_28 rfl ?_
          refine r_goto (pc := 31) (tgt := 4) C dX6_worthOfAll_31 (by decide) ?_
          refine Wc.to (ih (i + 1) (by omega) (by omega) (by omega) ) rfl (lsub_s (by first | rfl | (rw [sWorth_s T s h0]; first | rw [if_pos (by omega)] | rw [if_neg (by omega), Int.add_zero])) (lsub_s (by first | rfl | (rw [sWorth_s T s h0]; first | rw [if_pos (by omega)] | rw [if_neg (by omega), Int.add_zero])) (lsub_s (by first | rfl | (rw [sWorth_s T s h0]; first | rw [if_pos (by omega)] | rw [if_neg (by omega), Int.add_zero])) (lsub_s (by first | rfl | (rw [sWorth_s T s h0]; first | rw [if_pos (by omega)] | rw [if_neg (by omega), Int.add_zero])) lsub_0)))) (by rfl)
        · refine r_iload_n (pc := 20) C 2 dX6_worthOfAll_20 rfl rfl ?_
          refine r_aload_n (pc := 21) C 0 dX6_worthOfAll_21 rfl rfl ?_
          refine r_iload_n (pc := 22) C 3 dX6_worthOfAll_22 rfl rfl ?_
          refine r_callV (pc := 23) (is := [0]) C YX6_worthOf dX6_worthOfAll_23 tw_419 (c_X6_worthOf l G _ _ _ (by first | assumption | omega | exact zand_rng _ _ | exact zor_rng _ _ | exact zxor_rng _ _ | exact BT.r (IT.b (by assumption)) _ _) (by first | assumption | omega | exact zand_rng _ _ | exact zor_rng _ _ | exact zxor_rng _ _ | exact BT.r (IT.b (by assumption)) _ _)) 0 0 rfl rfl (ci := 6) rfl rfl rfl (by decide) rfl rfl (Nat.le_of_ble_eq_true rfl) ⟨rfl, rfl, by decide, by decide⟩ (jst_i (T_uall ..) ?_)
          refine r_iadd (pc := 26) C dX6_worthOfAll_26 ?_
          refine r_istore_n (pc := 27) C 2 dX6_worthOfAll_27 rfl (Nat.le_of_ble_eq_true rfl) ?_
          refine r_iinc (pc := 28) C dX6_worthOfAll_28 rfl ?_
          refine r_goto (pc := 31) (tgt := 4) C dX6_worthOfAll_31 (by decide) ?_
          refine Wc.to (ih (i + 1) (by omega) (by omega) (by omega) ) rfl (lsub_s (by first | rfl | (rw [sWorth_s T s h0]; first | rw [if_pos (by omega)] | rw [if_neg (by omega), Int.add_zero])) (lsub_s (by first | rfl | (rw [sWorth_s T s h0]; first | rw [if_pos (by omega)] | rw [if_neg (by omega), Int.add_zero])) (lsub_s (by first | rfl | (rw [sWorth_s T s h0]; first | rw [if_pos (by omega)] | rw [if_neg (by omega), Int.add_zero])) (lsub_s (by first | rfl | (rw [sWorth_s T s h0]; first | rw [if_pos (by omega)] | rw [if_neg (by omega), Int.add_zero])) lsub_0)))) (by rfl)
  refine Wc.to (L4 ((T 0 1 - (0)).toNat + 1) (0) (by omega) (by omega) (by omega) ) rfl (lsub_s rfl (lsub_s rfl (lsub_s rfl (lsub_s rfl lsub_0)))) (by rfl)

set_option maxRecDepth 100000 in
set_option maxHeartbeats 4000000 in
theorem c_X6_purseOf (l : Launch) (G : GT) (h : Nat → Nat) (T : Tn) (q : Int) (hI : IT T) (gq : -2147483648 ≤ q ∧ q < 2147483648) : Cn l yX6_purseOf cX6_purseOf 2 (Option.some .int) ({ frames := 5, cells := 0, slots := 0, locals := 107 }) G [.ref (h 0), .int (iI q)] (wT G h T) (jst (some (.int (iI (sPurse T q (T 0 1))))) (wT G h T)) := by
  refine Cn_in RX6 [some (.ref (h 0)), some (.int (iI q))] (by decide +kernel) rfl rfl rfl (Nat.le_of_ble_eq_true rfl) (fun K C hQ => ?_)
  have hBB := hI.b
  have hLL := hI.L
  have hDD := hI.D
  have hmr := (sMask_r (fun d => T 6 d = q) hDD.1 hDD.2).1
  have hzp := zp2_r (L := T 0 1) (by omega)
  refine r_aload_n (pc := 0) C 0 dX6_purseOf_0 rfl rfl ?_
  refine r_aload_n (pc := 1) C 0 dX6_purseOf_1 rfl rfl ?_
  refine r_iload_n (pc := 2) C 1 dX6_purseOf_2 rfl rfl ?_
  refine r_callV (pc := 3) (is := [0]) C YX6_dovesIn dX6_purseOf_3 tw_411 (c_X6_dovesIn l G _ _ _ (by first | assumption | omega | exact zand_rng _ _ | exact zor_rng _ _ | exact zxor_rng _ _ | exact BT.r (IT.b (by assumption)) _ _) (by first | assumption | omega | exact zand_rng _ _ | exact zor_rng _ _ | exact zxor_rng _ _ | exact BT.r (IT.b (by assumption)) _ _)) 0 0 rfl rfl (ci := 6) rfl rfl rfl (by decide) rfl rfl (Nat.le_of_ble_eq_true rfl) ⟨rfl, rfl, by decide, by decide⟩ (jst_i (T_uall ..) ?_)
  refine r_callV (pc := 6) (is := [0]) C YX6_worthOfAll dX6_purseOf_6 tw_415 (c_X6_worthOfAll l G _ _ _ (by first | assumption | omega | exact zand_rng _ _ | exact zor_rng _ _ | exact zxor_rng _ _ | exact BT.r (IT.b (by assumption)) _ _) (by first | assumption | omega | exact zand_rng _ _ | exact zor_rng _ _ | exact zxor_rng _ _ | exact BT.r (IT.b (by assumption)) _ _)) 0 0 rfl rfl (ci := 6) rfl rfl rfl (by decide) rfl rfl (Nat.le_of_ble_eq_true rfl) ⟨rfl, rfl, by decide, by decide⟩ (jst_i (T_uall ..) ?_)
  exact r_iret (pc := 9) C hQ dX6_purseOf_9 rfl (jst_ri (by exact sWorth_purse hDD.2 q) rfl)

set_option maxRecDepth 100000 in
set_option maxHeartbeats 4000000 in
theorem c_X6_wingsGrow (l : Launch) (G : GT) (h : Nat → Nat) (T : Tn) (hI : IT T) : Cn l yX6_wingsGrow cX6_wingsGrow 2 none ({ frames := 0, cells := 0, slots := 0, locals := 0 }) G [.ref (h 0)] (wT G h T) (jst none (wT G h (sClipS T (T 0 1)))) := by
  refine Cn_in RX6 [some (.ref (h 0)), none] (by decide +kernel) rfl rfl rfl (Nat.le_of_ble_eq_true rfl) (fun K C hQ => ?_)
  have hBB := hI.b
  have hLL := hI.L
  have hDD := hI.D
  refine r_iconst (pc := 0) C dX6_wingsGrow_0 ?_
  refine r_istore_n (pc := 1) C 1 dX6_wingsGrow_1 rfl (Nat.le_of_ble_eq_true rfl) ?_
  have L2 : ∀ (n : Nat) (i : Int), 0 ≤ i → i ≤ T 0 1 → T 0 1 < i + n → Wc K G 2 [some (.ref (h 0)), some (.int (iI i))] [] (wT G h (sClipS T i)) := by
    intro n
    induction n with
    | zero =>
      intro i h0 h1 hn; omega
    | succ n ih =>
      intro i h0 h1 hn 
      obtain ⟨hV, hV2, -⟩ := sClipS_p hI h0 h1
      have e2 : sClipS T i 0 1 = T 0 1 := by rw [hV2 0 (by decide)]
      refine r_iload_n (pc := 2) C 1 dX6_wingsGrow_2 rfl rfl ?_
      refine r_aload_n (pc := 3) C 0 dX6_wingsGrow_3 rfl rfl ?_
      refine r_get (pc := 4) C 0 0 9 dX6_wingsGrow_4 in_X6 rfl rfl (ci := 6) rfl (by decide) tw_93 rfl rfl ?_
      refine r_icmp_ge (pc := 7) (tgt := 35) C dX6_wingsGrow_7 (by decide) (by first | omega | exact zand_rng _ _ | exact zor_rng _ _ | exact zxor_rng _ _ | exact BT.r (IT.b (by assumption)) _ _) (by first | omega | exact zand_rng _ _ | exact zor_rng _ _ | exact zxor_rng _ _ | exact BT.r (IT.b (by assumption)) _ _) (fun c7 => ?_) (fun c7 => ?_)
      · obtain rfl : i = T 0 1 := by omega
        exact r_vret (pc := 35) C hQ dX6_wingsGrow_35 rfl (jst_rv rfl)
      · have hdd := hV.d h0 (by omega)
        refine r_aload_n (pc := 10) C 0 dX6_wingsGrow_10 rfl rfl ?_
        refine r_get (pc := 11) C 0 0 7 dX6_wingsGrow_11 in_X6 rfl rfl (ci := 6) rfl (by decide) tw_89 rfl rfl ?_
        refine r_iload_n (pc := 14) C 1 dX6_wingsGrow_14 rfl rfl ?_
        refine r_iaload (pc := 15) C 0 8 dX6_wingsGrow_15 rfl rfl (by decide) (by omega) ?_
        refine r_if_le (pc := 16) (tgt := 29) C dX6_wingsGrow_16 (by decide) (by first | omega | exact zand_rng _ _ | exact zor_rng _ _ | exact zxor_rng _ _ | exact BT.r (IT.b (by assumption)) _ _) (fun c16 => ?_) (fun c16 => ?_)
        · refine r_iinc (pc := 29) C dX6_wingsGrow_29 rfl ?_
          refine r_goto (pc := 32) (tgt := 2) C dX6_wingsGrow_32 (by decide) ?_
          refine Wc.to (ih (i + 1) (by omega) (by omega) (by omega) ) rfl (lsub_s rfl (lsub_s rfl lsub_0)) (by rw [sClipS_s _ h0]; first | rw [if_pos (by omega)] | rw [if_neg (by omega)])
        · refine r_aload_n (pc := 19) C 0 dX6_wingsGrow_19 rfl rfl ?_
          refine r_get (pc := 20) C 0 0 7 dX6_wingsGrow_20 in_X6 rfl rfl (ci := 6) rfl (by decide) tw_89 rfl rfl ?_
          refine r_iload_n (pc := 23) C 1 dX6_wingsGrow_23 rfl rfl ?_
          refine r_dup2 (pc := 24) C dX6_wingsGrow_24 rfl rfl ?_
          refine r_iaload (pc := 25) C 0 8 dX6_wingsGrow_25 rfl rfl (by decide) (by omega) ?_
          refine r_iconst (pc := 26) C dX6_wingsGrow_26 ?_
          refine r_isub (pc := 27) C dX6_wingsGrow_27 ?_
          refine r_iastore (pc := 28) C 0 8 dX6_wingsGrow_28 rfl rfl (by decide) (by omega) rfl (T_a0_8 ..) ?_
          refine r_iinc (pc := 29) C dX6_wingsGrow_29 rfl ?_
          refine r_goto (pc := 32) (tgt := 2) C dX6_wingsGrow_32 (by decide) ?_
          refine Wc.to (ih (i + 1) (by omega) (by omega) (by omega) ) rfl (lsub_s rfl (lsub_s rfl lsub_0)) (by rw [sClipS_s _ h0]; first | rw [if_pos (by omega)] | rw [if_neg (by omega)])
  refine Wc.to (L2 ((T 0 1 - (0)).toNat + 1) (0) (by omega) (by omega) (by omega) ) rfl (lsub_s rfl (lsub_s rfl lsub_0)) (by rfl)

set_option maxRecDepth 100000 in
set_option maxHeartbeats 4000000 in
theorem c_X6_growOlder (l : Launch) (G : GT) (h : Nat → Nat) (T : Tn) (m : Int) (hI : IT T) (hm : 0 ≤ m ∧ m ≤ T 0 1) : Cn l yX6_growOlder cX6_growOlder 3 none ({ frames := 1, cells := 0, slots := 0, locals := 21 }) G [.ref (h 0), .int (iI m)] (wT G h T) (jst none (wT G h (sAgeS T m))) := by
  refine Cn_in RX6 [some (.ref (h 0)), some (.int (iI m)), none] (by decide +kernel) rfl rfl rfl (Nat.le_of_ble_eq_true rfl) (fun K C hQ => ?_)
  have hBB := hI.b
  have hLL := hI.L
  have hDD := hI.D
  refine r_iconst (pc := 0) C dX6_growOlder_0 ?_
  refine r_istore_n (pc := 1) C 2 dX6_growOlder_1 rfl (Nat.le_of_ble_eq_true rfl) ?_
  have L2 : ∀ (n : Nat) (i : Int), 0 ≤ i → i ≤ m → m < i + n → Wc K G 2 [some (.ref (h 0)), some (.int (iI m)), some (.int (iI i))] [] (wT G h (sAgeS T i)) := by
    intro n
    induction n with
    | zero =>
      intro i h0 h1 hn; omega
    | succ n ih =>
      intro i h0 h1 hn 
      obtain ⟨hV, hV2, -⟩ := sAgeS_p hI h0 (by omega)
      have e2 : sAgeS T i 0 1 = T 0 1 := by rw [hV2 0 (by decide)]
      refine r_iload_n (pc := 2) C 2 dX6_growOlder_2 rfl rfl ?_
      refine r_iload_n (pc := 3) C 1 dX6_growOlder_3 rfl rfl ?_
      refine r_icmp_ge (pc := 4) (tgt := 40) C dX6_growOlder_4 (by decide) (by first | omega | exact zand_rng _ _ | exact zor_rng _ _ | exact zxor_rng _ _ | exact BT.r (IT.b (by assumption)) _ _) (by first | omega | exact zand_rng _ _ | exact zor_rng _ _ | exact zxor_rng _ _ | exact BT.r (IT.b (by assumption)) _ _) (fun c4 => ?_) (fun c4 => ?_)
      · obtain rfl : i = m := by omega
        exact r_vret (pc := 40) C hQ dX6_growOlder_40 rfl (jst_rv rfl)
      · refine r_iload_n (pc := 7) C 2 dX6_growOlder_7 rfl rfl ?_
        refine r_aload_n (pc := 8) C 0 dX6_growOlder_8 rfl rfl ?_
        refine r_get (pc := 9) C 0 0 9 dX6_growOlder_9 in_X6 rfl rfl (ci := 6) rfl (by decide) tw_93 rfl rfl ?_
        refine r_icmp_ge (pc := 12) (tgt := 40) C dX6_growOlder_12 (by decide) (by first | omega | exact zand_rng _ _ | exact zor_rng _ _ | exact zxor_rng _ _ | exact BT.r (IT.b (by assumption)) _ _) (by first | omega | exact zand_rng _ _ | exact zor_rng _ _ | exact zxor_rng _ _ | exact BT.r (IT.b (by assumption)) _ _) (fun c12 => absurd c12 (by omega)) (fun c12 => ?_)
        have hdd := hV.d h0 (by omega)
        refine r_aload_n (pc := 15) C 0 dX6_growOlder_15 rfl rfl ?_
        refine r_get (pc := 16) C 0 0 5 dX6_growOlder_16 in_X6 rfl rfl (ci := 6) rfl (by decide) tw_85 rfl rfl ?_
        refine r_iload_n (pc := 19) C 2 dX6_growOlder_19 rfl rfl ?_
        refine r_aload_n (pc := 20) C 0 dX6_growOlder_20 rfl rfl ?_
        refine r_get (pc := 21) C 0 0 5 dX6_growOlder_21 in_X6 rfl rfl (ci := 6) rfl (by decide) tw_85 rfl rfl ?_
        refine r_iload_n (pc := 24) C 2 dX6_growOlder_24 rfl rfl ?_
        refine r_iaload (pc := 25) C 0 6 dX6_growOlder_25 rfl rfl (by decide) (by omega) ?_
        refine r_iconst (pc := 26) C dX6_growOlder_26 ?_
        refine r_iadd (pc := 27) C dX6_growOlder_27 ?_
        refine r_bipush (pc := 28) C dX6_growOlder_28 (by decide) ?_
        refine r_min (pc := 30) C dX6_growOlder_30 tw_585 tw_303 tw_15 tw_304 (Nat.le_of_ble_eq_true rfl) (by decide) (by first | omega | exact zand_rng _ _ | exact zor_rng _ _ | exact zxor_rng _ _ | exact BT.r (IT.b (by assumption)) _ _) (by first | omega | exact zand_rng _ _ | exact zor_rng _ _ | exact zxor_rng _ _ | exact BT.r (IT.b (by assumption)) _ _) ?_
        refine r_iastore (pc := 33) C 0 6 dX6_growOlder_33 rfl rfl (by decide) (by omega) rfl (T_a0_6 ..) ?_
        refine r_iinc (pc := 34) C dX6_growOlder_34 rfl ?_
        refine r_goto (pc := 37) (tgt := 2) C dX6_growOlder_37 (by decide) ?_
        refine Wc.to (ih (i + 1) (by omega) (by omega) (by omega) ) rfl (lsub_s rfl (lsub_s rfl (lsub_s rfl lsub_0))) (by rw [sAgeS_m h0 (by omega)])
  refine Wc.to (L2 ((m - (0)).toNat + 1) (0) (by omega) (by omega) (by omega) ) rfl (lsub_s rfl (lsub_s rfl (lsub_s rfl lsub_0))) (by rfl)

set_option maxRecDepth 100000 in
set_option maxHeartbeats 4000000 in
theorem c_X6_addDove (l : Launch) (G : GT) (h : Nat → Nat) (T : Tn) (k q a : Int) (hI : IT T) (gk : -2147483648 ≤ k ∧ k < 2147483648) (gq : -2147483648 ≤ q ∧ q < 2147483648) (ga : -2147483648 ≤ a ∧ a < 2147483648) : Cn l yX6_addDove cX6_addDove 4 (Option.some .boolean) ({ frames := 1, cells := 0, slots := 0, locals := 21 }) G [.ref (h 0), .int (iI k), .int (iI q), .int (iI a)] (wT G h T) (jst (some (.int (iI (zb (T 0 1 < 8 ∧ 0 ≤ q ∧ q < T 0 0))))) (wT G h (if T 0 1 < 8 ∧ 0 ≤ q ∧ q < T 0 0 then sAdd T k q a else T))) := by
  refine Cn_in RX6 [some (.ref (h 0)), some (.int (iI k)), some (.int (iI q)), some (.int (iI a))] (by decide +kernel) rfl rfl rfl (Nat.le_of_ble_eq_true rfl) (fun K C hQ => ?_)
  have hBB := hI.b
  have hLL := hI.L
  have hDD := hI.D
  refine r_aload_n (pc := 0) C 0 dX6_addDove_0 rfl rfl ?_
  refine r_get (pc := 1) C 0 0 9 dX6_addDove_1 in_X6 rfl rfl (ci := 6) rfl (by decide) tw_93 rfl rfl ?_
  refine r_bipush (pc := 4) C dX6_addDove_4 (by decide) ?_
  refine r_icmp_ge (pc := 6) (tgt := 17) C dX6_addDove_6 (by decide) (by first | omega | exact zand_rng _ _ | exact zor_rng _ _ | exact zxor_rng _ _ | exact BT.r (IT.b (by assumption)) _ _) (by first | omega | exact zand_rng _ _ | exact zor_rng _ _ | exact zxor_rng _ _ | exact BT.r (IT.b (by assumption)) _ _) (fun c6 => ?_) (fun c6 => ?_)
  · refine r_iconst (pc := 17) C dX6_addDove_17 ?_
    exact r_zret (pc := 18) C hQ dX6_addDove_18 (by decide) rfl (jst_ri (by exact (zb_f (by omega)).symm) (by first | (rw [if_pos (by omega)]; done) | (rw [if_pos (by omega)]; rfl) | (rw [if_neg (by omega)]; done) | (rw [if_neg (by omega)]; rfl)))
  · refine r_aload_n (pc := 9) C 0 dX6_addDove_9 rfl rfl ?_
    refine r_iload_n (pc := 10) C 2 dX6_addDove_10 rfl rfl ?_
    refine r_callV (pc := 11) (is := [0]) C YX6_hasLoft dX6_addDove_11 tw_370 (c_X6_hasLoft l G _ _ _ (by first | assumption | omega | exact zand_rng _ _ | exact zor_rng _ _ | exact zxor_rng _ _ | exact BT.r (IT.b (by assumption)) _ _) (by first | assumption | omega | exact zand_rng _ _ | exact zor_rng _ _ | exact zxor_rng _ _ | exact BT.r (IT.b (by assumption)) _ _)) 0 0 rfl rfl (ci := 6) rfl rfl rfl (by decide) rfl rfl (Nat.le_of_ble_eq_true rfl) ⟨rfl, rfl, by decide, by decide⟩ (jst_i (T_uall ..) ?_)
    refine r_ifb_ne (pc := 14) (tgt := 19) C dX6_addDove_14 (by decide) (fun c14 => ?_) (fun c14 => ?_)
    · refine r_aload_n (pc := 19) C 0 dX6_addDove_19 rfl rfl ?_
      refine r_get (pc := 20) C 0 0 3 dX6_addDove_20 in_X6 rfl rfl (ci := 6) rfl (by decide) tw_81 rfl rfl ?_
      refine r_aload_n (pc := 23) C 0 dX6_addDove_23 rfl rfl ?_
      refine r_get (pc := 24) C 0 0 9 dX6_addDove_24 in_X6 rfl rfl (ci := 6) rfl (by decide) tw_93 rfl rfl ?_
      refine r_iload_n (pc := 27) C 1 dX6_addDove_27 rfl rfl ?_
      refine r_iastore (pc := 28) C 0 4 dX6_addDove_28 rfl rfl (by decide) (by first | omega | (show 0 ≤ T 0 1 ∧ T 0 1 < 8; omega)) rfl (T_a0_4 ..) ?_
      refine r_aload_n (pc := 29) C 0 dX6_addDove_29 rfl rfl ?_
      refine r_get (pc := 30) C 0 0 4 dX6_addDove_30 in_X6 rfl rfl (ci := 6) rfl (by decide) tw_83 rfl rfl ?_
      refine r_aload_n (pc := 33) C 0 dX6_addDove_33 rfl rfl ?_
      refine r_get (pc := 34) C 0 0 9 dX6_addDove_34 in_X6 rfl rfl (ci := 6) rfl (by decide) tw_93 rfl rfl ?_
      refine r_iload_n (pc := 37) C 2 dX6_addDove_37 rfl rfl ?_
      refine r_iastore (pc := 38) C 0 5 dX6_addDove_38 rfl rfl (by decide) (by first | omega | (show 0 ≤ T 0 1 ∧ T 0 1 < 8; omega)) rfl (T_a0_5 ..) ?_
      refine r_aload_n (pc := 39) C 0 dX6_addDove_39 rfl rfl ?_
      refine r_get (pc := 40) C 0 0 5 dX6_addDove_40 in_X6 rfl rfl (ci := 6) rfl (by decide) tw_85 rfl rfl ?_
      refine r_aload_n (pc := 43) C 0 dX6_addDove_43 rfl rfl ?_
      refine r_get (pc := 44) C 0 0 9 dX6_addDove_44 in_X6 rfl rfl (ci := 6) rfl (by decide) tw_93 rfl rfl ?_
      refine r_iload_n (pc := 47) C 3 dX6_addDove_47 rfl rfl ?_
      refine r_iastore (pc := 48) C 0 6 dX6_addDove_48 rfl rfl (by decide) (by first | omega | (show 0 ≤ T 0 1 ∧ T 0 1 < 8; omega)) rfl (T_a0_6 ..) ?_
      refine r_aload_n (pc := 49) C 0 dX6_addDove_49 rfl rfl ?_
      refine r_get (pc := 50) C 0 0 6 dX6_addDove_50 in_X6 rfl rfl (ci := 6) rfl (by decide) tw_87 rfl rfl ?_
      refine r_aload_n (pc := 53) C 0 dX6_addDove_53 rfl rfl ?_
      refine r_get (pc := 54) C 0 0 9 dX6_addDove_54 in_X6 rfl rfl (ci := 6) rfl (by decide) tw_93 rfl rfl ?_
      refine r_iload_n (pc := 57) C 2 dX6_addDove_57 rfl rfl ?_
      refine r_iastore (pc := 58) C 0 7 dX6_addDove_58 rfl rfl (by decide) (by first | omega | (show 0 ≤ T 0 1 ∧ T 0 1 < 8; omega)) rfl (T_a0_7 ..) ?_
      refine r_aload_n (pc := 59) C 0 dX6_addDove_59 rfl rfl ?_
      refine r_get (pc := 60) C 0 0 7 dX6_addDove_60 in_X6 rfl rfl (ci := 6) rfl (by decide) tw_89 rfl rfl ?_
      refine r_aload_n (pc := 63) C 0 dX6_addDove_63 rfl rfl ?_
      refine r_get (pc := 64) C 0 0 9 dX6_addDove_64 in_X6 rfl rfl (ci := 6) rfl (by decide) tw_93 rfl rfl ?_
      refine r_iconst (pc := 67) C dX6_addDove_67 ?_
      refine r_iastore (pc := 68) C 0 8 dX6_addDove_68 rfl rfl (by decide) (by first | omega | (show 0 ≤ T 0 1 ∧ T 0 1 < 8; omega)) rfl (T_a0_8 ..) ?_
      refine r_aload_n (pc := 69) C 0 dX6_addDove_69 rfl rfl ?_
      refine r_dup (pc := 70) C dX6_addDove_70 rfl ?_
      refine r_get (pc := 71) C 0 0 9 dX6_addDove_71 in_X6 rfl rfl (ci := 6) rfl (by decide) tw_93 rfl rfl ?_
      refine r_iconst (pc := 74) C dX6_addDove_74 ?_
      refine r_iadd (pc := 75) C dX6_addDove_75 ?_
      refine r_put (pc := 76) C 0 0 9 dX6_addDove_76 in_X6 tyX6_ok nmX6 rfl rfl (ci := 6) rfl (by decide) tw_93 rfl rfl (tyX6_ok 9 (by decide)) rfl rfl (Nat.le_of_ble_eq_true rfl) rfl (T_p0_9 ..) ?_
      refine r_iconst (pc := 79) C dX6_addDove_79 ?_
      exact r_zret (pc := 80) C hQ dX6_addDove_80 (by decide) rfl (jst_ri (by exact (zb_t (by omega)).symm) (by first | (rw [if_pos (by omega)]; done) | (rw [if_pos (by omega)]; rfl) | (rw [if_neg (by omega)]; done) | (rw [if_neg (by omega)]; rfl)))
    · refine r_iconst (pc := 17) C dX6_addDove_17 ?_
      exact r_zret (pc := 18) C hQ dX6_addDove_18 (by decide) rfl (jst_ri (by exact (zb_f (by omega)).symm) (by first | (rw [if_pos (by omega)]; done) | (rw [if_pos (by omega)]; rfl) | (rw [if_neg (by omega)]; done) | (rw [if_neg (by omega)]; rfl)))

