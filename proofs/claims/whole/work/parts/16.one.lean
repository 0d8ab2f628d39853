/-! one with another -/
def cR (T : Tn) (v : Int) : Nat → Int → Int → Prop
  | 0, p, q => p = q
  | n + 1, p, q => cR T v n p q ∨ ∃ r, (0 ≤ r ∧ r < T 0 0) ∧ cR T v n p r ∧ sWay T r q ≤ v
theorem cR_mono {T : Tn} {v p q : Int} {n m : Nat} (h : cR T v n p q) (hm : n ≤ m) : cR T v m p q := by
  induction m with
  | zero =>
    obtain rfl : n = 0 := by omega
    exact h
  | succ m ih =>
    by_cases e : n = m + 1
    · rw [← e]; exact h
    · exact Or.inl (ih (by omega))
theorem cR_same {T : Tn} {v p : Int} {n : Nat} (hc : ∀ q, 0 ≤ q → q < T 0 0 → cR T v (n + 1) p q → cR T v n p q) : ∀ m q, 0 ≤ q → q < T 0 0 → cR T v m p q → cR T v n p q := by
  intro m
  induction m with
  | zero =>
    intro q _ _ h
    exact cR_mono h (Nat.zero_le _)
  | succ m ih =>
    intro q h0 h1 h
    rcases h with h | ⟨r, hr, h2, h3⟩
    · exact ih q h0 h1 h
    · exact hc q h0 h1 (Or.inr ⟨r, hr, ih r hr.1 hr.2 h2, h3⟩)
theorem sSum_le {f g : Int → Int} {k j0 : Int} (h : ∀ j, 0 ≤ j → j < k → f j ≤ g j) (hj : 0 ≤ j0 ∧ j0 < k) (hs : f j0 + 1 ≤ g j0) : sSum f k + 1 ≤ sSum g k := by
  have H : ∀ n : Nat, (n : Int) ≤ k → sSum f n ≤ sSum g n ∧ (j0 < n → sSum f n + 1 ≤ sSum g n) := by
    intro n
    induction n with
    | zero => intro _; exact ⟨Int.le_refl _, fun h => by omega⟩
    | succ n ih =>
      intro hb
      have h1 := ih (by omega)
      have h2 := h n (by omega) (by omega)
      rw [show ((n + 1 : Nat) : Int) = (n : Int) + 1 by omega, sSum_s f (by omega), sSum_s g (by omega)]
      refine ⟨by omega, fun hh => ?_⟩
      by_cases e : j0 = n
      · rw [e] at hs
        omega
      · have := h1.2 (by omega)
        omega
  have := (H k.toNat (by omega)).2
  rw [show (k.toNat : Int) = k by omega] at this
  exact this hj.2
theorem zc_le {p q : Prop} (h : p → q) : zc p ≤ zc q := by
  have h2 := zc_r q
  by_cases hp : p
  · rw [zc_t hp, zc_t (h hp)]; omega
  · rw [zc_f hp]; omega
theorem cR_cl {T : Tn} {v p : Int} (hp : 0 ≤ p ∧ p < T 0 0) {m : Nat} {q : Int} (h0 : 0 ≤ q) (h1 : q < T 0 0) (h : cR T v m p q) : cR T v (T 0 0).toNat p q := by
  by_cases hx : ∃ n, n < (T 0 0).toNat ∧ ∀ q, 0 ≤ q → q < T 0 0 → cR T v (n + 1) p q → cR T v n p q
  · obtain ⟨n, hn, hc⟩ := hx
    exact cR_mono (cR_same hc m q h0 h1 h) (by omega)
  · exfalso
    have hno : ∀ n, n < (T 0 0).toNat → ∃ q, (0 ≤ q ∧ q < T 0 0) ∧ cR T v (n + 1) p q ∧ ¬ cR T v n p q := by
      intro n hn
      refine Classical.byContradiction (fun hq => hx ⟨n, hn, fun q a b c => Classical.byContradiction (fun d => hq ⟨q, ⟨a, b⟩, c, d⟩)⟩)
    have H : ∀ n : Nat, n ≤ (T 0 0).toNat → (n : Int) + 1 ≤ sSum (fun q => zc (cR T v n p q)) (T 0 0) := by
      intro n
      induction n with
      | zero =>
        intro _
        have h1 := sSum_le (f := fun _ => 0) (g := fun q => zc (cR T v 0 p q)) (k := T 0 0) (j0 := p) (fun j _ _ => (zc_r _).1) hp (by show (0 : Int) + 1 ≤ zc (p = p); rw [zc_t rfl]; omega)
        have h2 := sSum_r (f := fun _ => 0) (k := T 0 0) (m := 0) (fun j _ _ => ⟨Int.le_refl _, Int.le_refl _⟩) (T 0 0) (by omega) (Int.le_refl _)
        omega
      | succ n ih =>
        intro hb
        have h1 := ih (by omega)
        obtain ⟨q, hq, h2, h3⟩ := hno n (by omega)
        have h4 := sSum_le (f := fun q => zc (cR T v n p q)) (g := fun q => zc (cR T v (n + 1) p q)) (k := T 0 0) (j0 := q) (fun j _ _ => zc_le (fun z => Or.inl z)) hq (by show zc (cR T v n p q) + 1 ≤ zc (cR T v (n + 1) p q); rw [zc_f h3, zc_t h2]; omega)
        omega
    have h1 := H (T 0 0).toNat (Nat.le_refl _)
    have h2 := sSum_r (f := fun q => zc (cR T v (T 0 0).toNat p q)) (k := T 0 0) (m := 1) (fun j _ _ => zc_r _) (T 0 0) (by omega) (Int.le_refl _)
    omega
noncomputable def sComp (T : Tn) (v p : Int) : Int := @sFind (fun q => cR T v (T 0 0).toNat p q) (fun _ => Classical.propDecidable _) (T 0 0)
theorem sFind_no (p : Int → Prop) [DecidablePred p] {i : Int} (h0 : 0 ≤ i) (h : ∀ j, 0 ≤ j → j < i → ¬ p j) : sFind p i = -9 := by
  refine it_inv (f := fun n r => if r < 0 ∧ p n then n else r) (a := (-9 : Int)) (fun k r => k ≤ i → r = -9) (fun _ => rfl) (fun k r hk ih hb => ?_) i h0 (Int.le_refl _)
  rw [if_neg (fun q => h k hk (by omega) q.2)]
  exact ih (by omega)
theorem sFind_is (p : Int → Prop) [DecidablePred p] {i k : Int} (h0 : 0 ≤ i) (h : ∀ j, 0 ≤ j → j < i → ¬ p j) (hi : p i) (hk : i < k) : sFind p k = i := by
  have h1 := sFind_s p h0
  rw [sFind_no p h0 h, if_pos ⟨by decide, hi⟩] at h1
  rw [sFind_st p (i := i + 1) (by omega) (by omega) (by omega), h1]
theorem sComp_is {T : Tn} {v p i : Int} (h0 : 0 ≤ i) (hi : i < T 0 0) (h : ∀ j, 0 ≤ j → j < i → ¬ cR T v (T 0 0).toNat p j) (hc : cR T v (T 0 0).toNat p i) : sComp T v p = i :=
  @sFind_is _ (fun _ => Classical.propDecidable _) i (T 0 0) h0 h hc hi
theorem sComp_r {T : Tn} {v p : Int} (hp : 0 ≤ p ∧ p < T 0 0) : 0 ≤ sComp T v p ∧ sComp T v p ≤ p := by
  have hself : cR T v (T 0 0).toNat p p := cR_mono (n := 0) rfl (Nat.zero_le _)
  have h1 := @sFind_s (fun q => cR T v (T 0 0).toNat p q) (fun _ => Classical.propDecidable _) p hp.1
  have h2 := @sFind_r (fun q => cR T v (T 0 0).toNat p q) (fun _ => Classical.propDecidable _) p hp.1
  have h3 := @sFind_st (fun q => cR T v (T 0 0).toNat p q) (fun _ => Classical.propDecidable _) (p + 1) (T 0 0) (by omega)
  unfold sComp
  rcases h2 with h2 | h2
  · rw [if_pos ⟨by omega, hself⟩] at h1
    rw [h3 (by omega) (by omega)]
    omega
  · rw [if_neg (by omega)] at h1
    rw [h3 (by omega) (by omega)]
    omega
theorem sSet_kz : ∀ s : Nat, s < 64 → ∀ c : Nat, c < 6 → (0 ≤ sSet (s : Int) (c : Int) 1 ∧ sSet (s : Int) (c : Int) 1 < 64) ∧ ∀ j : Nat, j < 6 → zbit (sSet (s : Int) (c : Int) 1) (j : Int) = if j = c then 1 else zbit (s : Int) (j : Int) := by decide +kernel
theorem sSet_z {s c : Int} (hs : 0 ≤ s ∧ s < 64) (hc : 0 ≤ c ∧ c < 6) : (0 ≤ sSet s c 1 ∧ sSet s c 1 < 64) ∧ ∀ j, 0 ≤ j → j < 6 → zbit (sSet s c 1) j = if j = c then 1 else zbit s j := by
  have h := sSet_kz s.toNat (by omega) c.toNat (by omega)
  rw [show (s.toNat : Int) = s by omega, show (c.toNat : Int) = c by omega] at h
  refine ⟨h.1, fun j h0 h1 => ?_⟩
  have := h.2 j.toNat (by omega)
  rw [show (j.toNat : Int) = j by omega] at this
  rw [this]
  by_cases e : j = c
  · rw [if_pos e, if_pos (by omega)]
  · rw [if_neg e, if_neg (by omega)]
theorem zp2_kz : ∀ c : Nat, c < 6 → (0 ≤ 1 * zp2 (c : Int) ∧ 1 * zp2 (c : Int) < 64) ∧ ∀ j : Nat, j < 6 → zbit (1 * zp2 (c : Int)) (j : Int) = 1 → j = c := by decide +kernel
theorem zp2_ks : ∀ c : Nat, c < 6 → zbit (1 * zp2 (c : Int)) (c : Int) = 1 := by decide +kernel
/-- where the set stands in round t, at loft a and its other c -/
def cI (T : Tn) (v z t a c s : Int) : Prop :=
  ((0 ≤ s ∧ s < 64) ∧ ∀ j, 0 ≤ j → j < 6 → zbit s j = 1 → j < T 0 0 ∧ cR T v (T 0 0).toNat z j) ∧
  (∀ j, 0 ≤ j → j < T 0 0 → cR T v t.toNat z j → zbit s j = 1) ∧
  (∀ a' c', 0 ≤ a' → a' < T 0 0 → 0 ≤ c' → c' < T 0 0 → (a' < a ∨ a' = a ∧ c' < c) → cR T v t.toNat z a' → sWay T a' c' ≤ v → zbit s c' = 1)
theorem cI_0 {T : Tn} {v z : Int} (hL : T 0 0 ≤ 6) (hz : 0 ≤ z ∧ z < T 0 0) : cI T v z 0 0 0 (1 * zp2 z) := by
  obtain ⟨k1, k2⟩ := zp2_kz z.toNat (by omega)
  have k3 := zp2_ks z.toNat (by omega)
  rw [show (z.toNat : Int) = z by omega] at k1 k2 k3
  refine ⟨⟨k1, fun j h0 h1 hb => ?_⟩, fun j h0 h1 hb => ?_, fun a' c' h0 _ h1 _ hh => by omega⟩
  · have := k2 j.toNat (by omega)
    rw [show (j.toNat : Int) = j by omega] at this
    obtain rfl : j = z := by have := this hb; omega
    exact ⟨hz.2, cR_mono (n := 0) rfl (Nat.zero_le _)⟩
  · have hb2 : z = j := hb
    rw [← hb2]
    exact k3
theorem cI_a {T : Tn} {v z t a c s : Int} (h : cI T v z t a c s) (hc : T 0 0 ≤ c) : cI T v z t (a + 1) 0 s :=
  ⟨h.1, h.2.1, fun a' c' h0 h1 h2 h3 hh => h.2.2 a' c' h0 h1 h2 h3 (by omega)⟩
theorem cI_t {T : Tn} {v z t a s : Int} (h : cI T v z t a 0 s) (ht : 0 ≤ t) (ha : T 0 0 ≤ a) : cI T v z (t + 1) 0 0 s := by
  refine ⟨h.1, fun j h0 h1 hb => ?_, fun a' c' h0 _ h1 _ hh => by omega⟩
  rw [show (t + 1).toNat = t.toNat + 1 by omega] at hb
  rcases hb with hb | ⟨r, hr, h2, h3⟩
  · exact h.2.1 j h0 h1 hb
  · exact h.2.2 r j hr.1 hr.2 h0 h1 (by omega) h2 h3
theorem cI_n {T : Tn} {v z t a c s : Int} (h : cI T v z t a c s) (ha : 0 ≤ a ∧ a < T 0 0) (hn : zbit s a ≠ 1 ∨ v < sWay T a c) : cI T v z t a (c + 1) s := by
  refine ⟨h.1, h.2.1, fun a' c' h0 h1 h2 h3 hh h4 h5 => ?_⟩
  by_cases e : a' = a ∧ c' = c
  · exfalso
    rw [e.1] at h4
    rw [e.1, e.2] at h5
    have := h.2.1 a ha.1 ha.2 h4
    omega
  · exact h.2.2 a' c' h0 h1 h2 h3 (by omega) h4 h5
theorem cI_y {T : Tn} {v z t a c s : Int} (hL : T 0 0 ≤ 6) (hz : 0 ≤ z ∧ z < T 0 0) (h : cI T v z t a c s) (ha : 0 ≤ a ∧ a < T 0 0) (hc : 0 ≤ c ∧ c < T 0 0) (hb : zbit s a = 1) (hw : sWay T a c ≤ v) : cI T v z t a (c + 1) (sSet s c 1) := by
  obtain ⟨k1, k2⟩ := sSet_z h.1.1 (c := c) (by omega)
  have hm : ∀ j, 0 ≤ j → j < T 0 0 → zbit s j = 1 → zbit (sSet s c 1) j = 1 := fun j h0 h1 hh => by
    rw [k2 j h0 (by omega), hh]
    split <;> rfl
  refine ⟨⟨k1, fun j h0 h1 hj => ?_⟩, fun j h0 h1 hj => hm j h0 h1 (h.2.1 j h0 h1 hj), fun a' c' h0 h1 h2 h3 hh h4 h5 => ?_⟩
  · rw [k2 j h0 h1] at hj
    by_cases e : j = c
    · rw [e]
      exact ⟨hc.2, cR_cl (m := (T 0 0).toNat + 1) hz hc.1 hc.2 (Or.inr ⟨a, ha, (h.1.2 a ha.1 (by omega) hb).2, hw⟩)⟩
    · rw [if_neg e] at hj
      exact h.1.2 j h0 h1 hj
  · by_cases e : c' = c
    · rw [k2 c' h2 (by omega), if_pos e]
    · exact hm c' h2 h3 (h.2.2 a' c' h0 h1 h2 h3 (by omega) h4 h5)
theorem cI_is {T : Tn} {v z t s i : Int} (hL : T 0 0 ≤ 6) (ht : 6 ≤ t) (h : cI T v z t 0 0 s) (h0 : 0 ≤ i ∧ i < 6) (hi : zbit s i = 1) (hp : ∀ j, 0 ≤ j → j < i → zbit s j ≠ 1) : sComp T v z = i := by
  obtain ⟨a1, a2⟩ := h.1.2 i h0.1 h0.2 hi
  exact sComp_is h0.1 a1 (fun j hj hji hc => hp j hj hji (h.2.1 j hj (by omega) (cR_mono hc (by omega)))) a2
theorem cI_z {T : Tn} {v z t s : Int} (hz : 0 ≤ z ∧ z < T 0 0) (h : cI T v z t 0 0 s) : zbit s z = 1 := h.2.1 z hz.1 hz.2 (cR_mono (n := 0) rfl (Nat.zero_le _))
noncomputable def sPurses (T : Tn) (v i : Int) : Int := sSum (fun q => if sComp T v q = q then 1 else 0) i
theorem sPurses_s (T : Tn) (v : Int) {i : Int} (h : 0 ≤ i) : sPurses T v (i + 1) = sPurses T v i + (if sComp T v i = i then 1 else 0) := sSum_s _ h
theorem sPurses_r (T : Tn) (v : Int) {i : Int} (h : 0 ≤ i) : 0 ≤ sPurses T v i ∧ sPurses T v i ≤ i := by
  have := sSum_r (f := fun q => if sComp T v q = q then (1 : Int) else 0) (k := i) (m := 1) (fun j hj hk => by
    show 0 ≤ (if sComp T v j = j then (1 : Int) else 0) ∧ (if sComp T v j = j then (1 : Int) else 0) ≤ 1
    split <;> omega) i h (Int.le_refl _)
  unfold sPurses
  omega
noncomputable def sLed (T : Tn) (v p i : Int) : Int := sSum (fun q => if sComp T v q = p then sPurse T q (T 0 1) else 0) i
theorem sLed_s (T : Tn) (v p : Int) {i : Int} (h : 0 ≤ i) : sLed T v p (i + 1) = sLed T v p i + (if sComp T v i = p then sPurse T i (T 0 1) else 0) := sSum_s _ h
theorem sLed_r {T : Tn} (hI : IT T) (v p : Int) {i : Int} (h : 0 ≤ i) (hi : i ≤ T 0 0) : 0 ≤ sLed T v p i ∧ sLed T v p i ≤ 384 := by
  have hD := hI.D
  have hL := hI.L
  have := sSum_r (f := fun q => if sComp T v q = p then sPurse T q (T 0 1) else 0) (k := T 0 0) (m := 64) (fun j hj hk => by
    have := sPurse_r hI j hD.1 (Int.le_refl _)
    show 0 ≤ (if sComp T v j = p then sPurse T j (T 0 1) else 0) ∧ (if sComp T v j = p then sPurse T j (T 0 1) else 0) ≤ 64
    split <;> omega) i h hi
  unfold sLed
  omega
noncomputable def sRich (T : Tn) (v i : Int) : Int × Int := it (fun p r => if sComp T v p = p ∧ (r.1 < 0 ∨ r.2 < sLed T v p (T 0 0)) then (p, sLed T v p (T 0 0)) else r) (-9, 0) i
theorem sRich_s (T : Tn) (v : Int) {i : Int} (h : 0 ≤ i) : sRich T v (i + 1) = if sComp T v i = i ∧ ((sRich T v i).1 < 0 ∨ (sRich T v i).2 < sLed T v i (T 0 0)) then (i, sLed T v i (T 0 0)) else sRich T v i := it_s _ _ h
theorem sRich_r {T : Tn} (hI : IT T) (v : Int) {i : Int} (h0 : 0 ≤ i) : ((sRich T v i).1 = -9 ∨ 0 ≤ (sRich T v i).1 ∧ (sRich T v i).1 < i) ∧ (0 ≤ (sRich T v i).2 ∧ (sRich T v i).2 ≤ 384) := by
  have hL := hI.L
  refine it_inv (f := fun p r => if sComp T v p = p ∧ (r.1 < 0 ∨ r.2 < sLed T v p (T 0 0)) then (p, sLed T v p (T 0 0)) else r) (a := ((-9 : Int), (0 : Int))) (fun i r => (r.1 = -9 ∨ 0 ≤ r.1 ∧ r.1 < i) ∧ (0 ≤ r.2 ∧ r.2 ≤ 384)) ⟨Or.inl rfl, by decide⟩ (fun i r hi ih => ?_) i h0
  have hw := sLed_r hI v i hL.1 (Int.le_refl _)
  split
  · show (i = -9 ∨ 0 ≤ i ∧ i < i + 1) ∧ (0 ≤ sLed T v i (T 0 0) ∧ sLed T v i (T 0 0) ≤ 384)
    omega
  · omega
def q_near (v w : Int) : Int := if sOut v 0 18 = 0 then (if 0 ≤ w ∧ w < 2 then 0 else -2) else sOut v 0 18
noncomputable def v_near (T : Tn) (v w : Int) : Int := if w = 0 then sPurses T v (T 0 0) else (sRich T v (T 0 0)).1
set_option maxRecDepth 100000 in
set_option maxHeartbeats 4000000 in
theorem c_X9_oneWith (l : Launch) (G : GT) (b : Nat → Nat) (R T : Tn) (z v : Int) (hI : IT T) (hz : 0 ≤ z ∧ z < T 0 0) (gv : -2147483648 ≤ v ∧ v < 2147483648) : Cn l yX9_oneWith cX9_oneWith 7 (Option.some .int) ({ frames := 2, cells := 0, slots := 0, locals := 42 }) G [.ref (b 0), .int (iI z), .int (iI v)] (wR G b R T) (jst (some (.int (iI (sComp T v z)))) (wR G b R T)) := by
  refine Cn_in RX9 [some (.ref (b 0)), some (.int (iI z)), some (.int (iI v)), none, none, none, none] (by decide +kernel) rfl rfl rfl (Nat.le_of_ble_eq_true rfl) (fun K C hQ => ?_)
  have hBB := hI.b
  have hLL := hI.L
  have hDD := hI.D
  refine r_iconst (pc := 0) C dX9_oneWith_0 ?_
  refine r_iload_n (pc := 1) C 1 dX9_oneWith_1 rfl rfl ?_
  refine r_ishl (pc := 2) C dX9_oneWith_2 (by omega) ?_
  refine r_istore_n (pc := 3) C 3 dX9_oneWith_3 rfl (Nat.le_of_ble_eq_true rfl) ?_
  refine r_iconst (pc := 4) C dX9_oneWith_4 ?_
  refine r_istore (pc := 5) C dX9_oneWith_5 (Nat.le_of_ble_eq_true rfl) ?_
  have L7 : ∀ (n : Nat) (t s : Int), 0 ≤ t → t ≤ 6 → 6 < t + n → cI T v z t 0 0 s → Wc K G 7 [some (.ref (b 0)), some (.int (iI z)), some (.int (iI v)), some (.int (iI s)), some (.int (iI t)), none, none] [] (wR G b R T) := by
    intro n
    induction n with
    | zero =>
      intro t s h70 h71 h72; omega
    | succ n ih =>
      intro t s h70 h71 h72 hC7
      have ih7 := ih
      refine r_iload (pc := 7) C dX9_oneWith_7 rfl ?_
      refine r_bipush (pc := 9) C dX9_oneWith_9 (by decide) ?_
      refine r_icmp_ge (pc := 11) (tgt := 89) C dX9_oneWith_11 (by decide) (by first | omega | exact zand_rng _ _ | exact zor_rng _ _ | exact zxor_rng _ _ | exact BT.r (IT.b (by assumption)) _ _) (by first | omega | exact zand_rng _ _ | exact zor_rng _ _ | exact zxor_rng _ _ | exact BT.r (IT.b (by assumption)) _ _) (fun c11 => ?_) (fun c11 => ?_)
      · refine r_iconst (pc := 89) C dX9_oneWith_89 ?_
        refine r_istore (pc := 90) C dX9_oneWith_90 (Nat.le_of_ble_eq_true rfl) ?_
        have L92 : ∀ (n : Nat) (i : Int), 0 ≤ i → i ≤ z → z < i + n → (∀ j, 0 ≤ j → j < i → zbit s j ≠ 1) → Wc K G 92 [some (.ref (b 0)), some (.int (iI z)), some (.int (iI v)), some (.int (iI s)), some (.int (iI i)), none, none] [] (wR G b R T) := by
          intro n
          induction n with
          | zero =>
            intro i h0 h1 hn; omega
          | succ n ih =>
            intro i h0 h1 hn hp
            have hs2 := hC7.1.1
            have hzz := cI_z hz hC7
            refine r_iload_n (pc := 92) C 3 dX9_oneWith_92 rfl rfl ?_
            refine r_iload (pc := 93) C dX9_oneWith_93 rfl ?_
            refine r_ishr (pc := 95) C dX9_oneWith_95 (by first | omega | exact zand_rng _ _ | exact zor_rng _ _ | exact zxor_rng _ _ | exact BT.r (IT.b (by assumption)) _ _) (by omega) ?_
            refine r_iconst (pc := 96) C dX9_oneWith_96 ?_
            refine r_iand (pc := 97) C dX9_oneWith_97 ?_
            refine r_if_ne (pc := 98) (tgt := 107) C dX9_oneWith_98 (by decide) (by first | omega | exact zand_rng _ _ | exact zor_rng _ _ | exact zxor_rng _ _ | exact BT.r (IT.b (by assumption)) _ _) (fun c98 => ?_) (fun c98 => ?_)
            · refine r_iload (pc := 107) C dX9_oneWith_107 rfl ?_
              exact r_iret (pc := 109) C hQ dX9_oneWith_109 rfl (jst_ri (by rw [zand_1] at c98; exact (cI_is (by omega) (by omega) hC7 (by omega) (by unfold zbit; omega) hp).symm) rfl)
            · refine r_iinc (pc := 101) C dX9_oneWith_101 rfl ?_
              refine r_goto (pc := 104) (tgt := 92) C dX9_oneWith_104 (by decide) ?_
              rw [zand_1] at c98
              have hne : zbit s i ≠ 1 := by unfold zbit; omega
              have hiz : i ≠ z := fun e => by rw [e] at hne; exact hne hzz
              refine Wc.to (ih (i + 1) (by omega) (by omega) (by omega) (fun j a c => if e : j = i then by rw [e]; exact hne else hp j a (by omega))) rfl (lsub_s rfl (lsub_s rfl (lsub_s rfl (lsub_s rfl (lsub_s rfl (lsub_n (lsub_n lsub_0))))))) rfl
        refine Wc.to (L92 7 0 (by omega) (by omega) (by omega) (fun j a c => absurd c (by omega))) rfl (lsub_s rfl (lsub_s rfl (lsub_s rfl (lsub_s rfl (lsub_s rfl (lsub_n (lsub_n lsub_0))))))) rfl
      · refine r_iconst (pc := 14) C dX9_oneWith_14 ?_
        refine r_istore (pc := 15) C dX9_oneWith_15 (Nat.le_of_ble_eq_true rfl) ?_
        have L17 : ∀ (n : Nat) (a s1 : Int), 0 ≤ a → a ≤ T 0 0 → T 0 0 < a + n → cI T v z t a 0 s1 → Wc K G 17 [some (.ref (b 0)), some (.int (iI z)), some (.int (iI v)), some (.int (iI s1)), some (.int (iI t)), some (.int (iI a)), none] [] (wR G b R T) := by
          intro n
          induction n with
          | zero =>
            intro a s1 h80 h81 h82; omega
          | succ n ih =>
            intro a s1 h80 h81 h82 hC17
            have ih17 := ih
            refine r_iload (pc := 17) C dX9_oneWith_17 rfl ?_
            refine r_aload_n (pc := 19) C 0 dX9_oneWith_19 rfl rfl ?_
            refine r_get (pc := 20) C 0 0 1 dX9_oneWith_20 in_X9 rfl rfl (ci := 9) rfl (by decide) tw_742 rfl rfl ?_
            refine r_iconst (pc := 23) C dX9_oneWith_23 ?_
            refine r_ialoadE (pc := 24) C 2 0 dX9_oneWith_24 rfl rfl (by decide) (by omega) (flat_0 _ (by decide)) ?_
            refine r_icmp_ge (pc := 25) (tgt := 83) C dX9_oneWith_25 (by decide) (by first | omega | exact zand_rng _ _ | exact zor_rng _ _ | exact zxor_rng _ _ | exact BT.r (IT.b (by assumption)) _ _) (by first | omega | exact zand_rng _ _ | exact zor_rng _ _ | exact zxor_rng _ _ | exact BT.r (IT.b (by assumption)) _ _) (fun c25 => ?_) (fun c25 => ?_)
            · refine r_iinc (pc := 83) C dX9_oneWith_83 rfl ?_
              refine r_goto (pc := 86) (tgt := 7) C dX9_oneWith_86 (by decide) ?_
              refine Wc.to (ih7 (t + 1) s1 (by omega) (by omega) (by omega) (cI_t hC17 (by omega) (by omega))) rfl (lsub_s rfl (lsub_s rfl (lsub_s rfl (lsub_s rfl (lsub_s rfl (lsub_n (lsub_n lsub_0))))))) rfl
            · refine r_iconst (pc := 28) C dX9_oneWith_28 ?_
              refine r_istore (pc := 29) C dX9_oneWith_29 (Nat.le_of_ble_eq_true rfl) ?_
              have L31 : ∀ (n : Nat) (c s2 : Int), 0 ≤ c → c ≤ T 0 0 → T 0 0 < c + n → cI T v z t a c s2 → Wc K G 31 [some (.ref (b 0)), some (.int (iI z)), some (.int (iI v)), some (.int (iI s2)), some (.int (iI t)), some (.int (iI a)), some (.int (iI c))] [] (wR G b R T) := by
                intro n
                induction n with
                | zero =>
                  intro c s2 h90 h91 h92; omega
                | succ n ih =>
                  intro c s2 h90 h91 h92 hC31
                  have hs2 := hC31.1.1
                  refine r_iload (pc := 31) C dX9_oneWith_31 rfl ?_
                  refine r_aload_n (pc := 33) C 0 dX9_oneWith_33 rfl rfl ?_
                  refine r_get (pc := 34) C 0 0 1 dX9_oneWith_34 in_X9 rfl rfl (ci := 9) rfl (by decide) tw_742 rfl rfl ?_
                  refine r_iconst (pc := 37) C dX9_oneWith_37 ?_
                  refine r_ialoadE (pc := 38) C 2 0 dX9_oneWith_38 rfl rfl (by decide) (by omega) (flat_0 _ (by decide)) ?_
                  refine r_icmp_ge (pc := 39) (tgt := 77) C dX9_oneWith_39 (by decide) (by first | omega | exact zand_rng _ _ | exact zor_rng _ _ | exact zxor_rng _ _ | exact BT.r (IT.b (by assumption)) _ _) (by first | omega | exact zand_rng _ _ | exact zor_rng _ _ | exact zxor_rng _ _ | exact BT.r (IT.b (by assumption)) _ _) (fun c39 => ?_) (fun c39 => ?_)
                  · refine r_iinc (pc := 77) C dX9_oneWith_77 rfl ?_
                    refine r_goto (pc := 80) (tgt := 17) C dX9_oneWith_80 (by decide) ?_
                    refine Wc.to (ih17 (a + 1) s2 (by omega) (by omega) (by omega) (cI_a hC31 (by omega))) rfl (lsub_s rfl (lsub_s rfl (lsub_s rfl (lsub_s rfl (lsub_s rfl (lsub_s rfl (lsub_n lsub_0))))))) rfl
                  · refine r_iload_n (pc := 42) C 3 dX9_oneWith_42 rfl rfl ?_
                    refine r_iload (pc := 43) C dX9_oneWith_43 rfl ?_
                    refine r_ishr (pc := 45) C dX9_oneWith_45 (by first | omega | exact zand_rng _ _ | exact zor_rng _ _ | exact zxor_rng _ _ | exact BT.r (IT.b (by assumption)) _ _) (by omega) ?_
                    refine r_iconst (pc := 46) C dX9_oneWith_46 ?_
                    refine r_iand (pc := 47) C dX9_oneWith_47 ?_
                    refine r_iconst (pc := 48) C dX9_oneWith_48 ?_
                    refine r_icmp_ne (pc := 49) (tgt := 71) C dX9_oneWith_49 (by decide) (by first | omega | exact zand_rng _ _ | exact zor_rng _ _ | exact zxor_rng _ _ | exact BT.r (IT.b (by assumption)) _ _) (by first | omega | exact zand_rng _ _ | exact zor_rng _ _ | exact zxor_rng _ _ | exact BT.r (IT.b (by assumption)) _ _) (fun c49 => ?_) (fun c49 => ?_)
                    · refine r_iinc (pc := 71) C dX9_oneWith_71 rfl ?_
                      refine r_goto (pc := 74) (tgt := 31) C dX9_oneWith_74 (by decide) ?_
                      (try rw [zand_1] at c49)
                      first | refine Wc.to (ih (c + 1) s2 (by omega) (by omega) (by omega) (cI_n hC31 (by omega) (by unfold zbit; omega))) rfl (lsub_s rfl (lsub_s rfl (lsub_s rfl (lsub_s rfl (lsub_s rfl (lsub_s rfl (lsub_s rfl lsub_0))))))) rfl | refine Wc.to (ih (c + 1) (sSet s2 c 1) (by omega) (by omega) (by omega) (cI_y (by omega) hz hC31 (by omega) (by omega) (by unfold zbit; omega) (by omega))) rfl (lsub_s rfl (lsub_s rfl (lsub_s rfl (lsub_s (by rw [sSet_or (by omega) (by omega)]) (lsub_s rfl (lsub_s rfl (lsub_s rfl lsub_0))))))) rfl
                    · refine r_aload_n (pc := 52) C 0 dX9_oneWith_52 rfl rfl ?_
                      refine r_iload (pc := 53) C dX9_oneWith_53 rfl ?_
                      refine r_iload (pc := 55) C dX9_oneWith_55 rfl ?_
                      refine r_callV (pc := 57) (is := [0, 1, 2, 3, 4, 5, 6, 7, 8]) C YX9_wayOf dX9_oneWith_57 tw_870 (c_X9_wayOf l G _ _ _ _ _ (by first | assumption | omega | exact zand_rng _ _ | exact zor_rng _ _ | exact zxor_rng _ _ | exact BT.r (IT.b (by assumption)) _ _) (by first | assumption | omega | exact zand_rng _ _ | exact zor_rng _ _ | exact zxor_rng _ _ | exact BT.r (IT.b (by assumption)) _ _) (by first | assumption | omega | exact zand_rng _ _ | exact zor_rng _ _ | exact zxor_rng _ _ | exact BT.r (IT.b (by assumption)) _ _)) 0 0 rfl rfl (ci := 9) rfl rfl rfl (by decide) rfl rfl (Nat.le_of_ble_eq_true rfl) ⟨rfl, rfl, by decide, by decide⟩ (jst_i (R_uall ..) ?_)
                      have hw57 := sWay_r hI (a := a) (b := c) (by omega) (by omega)
                      refine r_iload_n (pc := 60) C 2 dX9_oneWith_60 rfl rfl ?_
                      refine r_icmp_gt (pc := 61) (tgt := 71) C dX9_oneWith_61 (by decide) (by first | omega | exact zand_rng _ _ | exact zor_rng _ _ | exact zxor_rng _ _ | exact BT.r (IT.b (by assumption)) _ _) (by first | omega | exact zand_rng _ _ | exact zor_rng _ _ | exact zxor_rng _ _ | exact BT.r (IT.b (by assumption)) _ _) (fun c61 => ?_) (fun c61 => ?_)
                      · refine r_iinc (pc := 71) C dX9_oneWith_71 rfl ?_
                        refine r_goto (pc := 74) (tgt := 31) C dX9_oneWith_74 (by decide) ?_
                        (try rw [zand_1] at c49)
                        first | refine Wc.to (ih (c + 1) s2 (by omega) (by omega) (by omega) (cI_n hC31 (by omega) (by unfold zbit; omega))) rfl (lsub_s rfl (lsub_s rfl (lsub_s rfl (lsub_s rfl (lsub_s rfl (lsub_s rfl (lsub_s rfl lsub_0))))))) rfl | refine Wc.to (ih (c + 1) (sSet s2 c 1) (by omega) (by omega) (by omega) (cI_y (by omega) hz hC31 (by omega) (by omega) (by unfold zbit; omega) (by omega))) rfl (lsub_s rfl (lsub_s rfl (lsub_s rfl (lsub_s (by rw [sSet_or (by omega) (by omega)]) (lsub_s rfl (lsub_s rfl (lsub_s rfl lsub_0))))))) rfl
                      · refine r_iload_n (pc := 64) C 3 dX9_oneWith_64 rfl rfl ?_
                        refine r_iconst (pc := 65) C dX9_oneWith_65 ?_
                        refine r_iload (pc := 66) C dX9_oneWith_66 rfl ?_
                        refine r_ishl (pc := 68) C dX9_oneWith_68 (by omega) ?_
                        refine r_ior (pc := 69) C dX9_oneWith_69 ?_
                        refine r_istore_n (pc := 70) C 3 dX9_oneWith_70 rfl (Nat.le_of_ble_eq_true rfl) ?_
                        refine r_iinc (pc := 71) C dX9_oneWith_71 rfl ?_
                        refine r_goto (pc := 74) (tgt := 31) C dX9_oneWith_74 (by decide) ?_
                        (try rw [zand_1] at c49)
                        first | refine Wc.to (ih (c + 1) s2 (by omega) (by omega) (by omega) (cI_n hC31 (by omega) (by unfold zbit; omega))) rfl (lsub_s rfl (lsub_s rfl (lsub_s rfl (lsub_s rfl (lsub_s rfl (lsub_s rfl (lsub_s rfl lsub_0))))))) rfl | refine Wc.to (ih (c + 1) (sSet s2 c 1) (by omega) (by omega) (by omega) (cI_y (by omega) hz hC31 (by omega) (by omega) (by unfold zbit; omega) (by omega))) rfl (lsub_s rfl (lsub_s rfl (lsub_s rfl (lsub_s (by rw [sSet_or (by omega) (by omega)]) (lsub_s rfl (lsub_s rfl (lsub_s rfl lsub_0))))))) rfl
              refine Wc.to (L31 7 0 s1 (by omega) (by omega) (by omega) hC17) rfl (lsub_s rfl (lsub_s rfl (lsub_s rfl (lsub_s rfl (lsub_s rfl (lsub_s rfl (lsub_s rfl lsub_0))))))) rfl
        refine Wc.to (L17 7 0 s (by omega) (by omega) (by omega) hC7) rfl (lsub_s rfl (lsub_s rfl (lsub_s rfl (lsub_s rfl (lsub_s rfl (lsub_s rfl (lsub_n lsub_0))))))) rfl
  refine Wc.to (L7 7 0 (1 * zp2 z) (by omega) (by omega) (by omega) (cI_0 (by omega) hz)) rfl (lsub_s rfl (lsub_s rfl (lsub_s rfl (lsub_s rfl (lsub_s rfl (lsub_n (lsub_n lsub_0))))))) rfl

set_option maxRecDepth 100000 in
set_option maxHeartbeats 4000000 in
theorem c_X9_near (l : Launch) (G : GT) (b : Nat → Nat) (R T : Tn) (v w : Int) (hI : IT T) (hR : IR R) (gv : -2147483648 ≤ v ∧ v < 2147483648) (gw : -2147483648 ≤ w ∧ w < 2147483648) : Cn l yX9_near cX9_near 10 (Option.some .int) ({ frames := 3, cells := 0, slots := 0, locals := 68 }) G [.ref (b 0), .int (iI v), .int (iI w)] (wR G b R T) (jst (some (.int (iI (zans (q_near v w) (v_near T v w))))) (wR G b (zif (q_near v w) (R) (rfs R (q_near v w))) (zif (q_near v w) (T) T))) := by
  refine Cn_in RX9 [some (.ref (b 0)), some (.int (iI v)), some (.int (iI w)), none, none, none, none, none, none, none] (by decide +kernel) rfl rfl rfl (Nat.le_of_ble_eq_true rfl) (fun K C hQ => ?_)
  obtain ⟨r0, r1, r3, r6, r8⟩ := hR
  have hBB := hI.b
  have hLL := hI.L
  have hDD := hI.D
  refine r_iload_n (pc := 0) C 1 dX9_near_0 rfl rfl ?_
  refine r_iconst (pc := 1) C dX9_near_1 ?_
  refine r_bipush (pc := 2) C dX9_near_2 (by decide) ?_
  refine r_callS (pc := 4) (is := []) C YX9_within dX9_near_4 tw_782 (c_X9_within l G _ _ _ (by first | assumption | omega | exact zand_rng _ _ | exact zor_rng _ _ | exact zxor_rng _ _ | exact BT.r (IT.b (by assumption)) _ _) (by first | assumption | omega | exact zand_rng _ _ | exact zor_rng _ _ | exact zxor_rng _ _ | exact BT.r (IT.b (by assumption)) _ _) (by first | assumption | omega | exact zand_rng _ _ | exact zor_rng _ _ | exact zxor_rng _ _ | exact BT.r (IT.b (by assumption)) _ _)) rfl (by decide) rfl rfl (Nat.le_of_ble_eq_true rfl) ⟨rfl, rfl, by decide, by decide⟩ (jst_i rfl ?_)
  have hs4 := sOut_r v 0 18 (by decide)
  refine r_istore_n (pc := 7) C 3 dX9_near_7 rfl (Nat.le_of_ble_eq_true rfl) ?_
  refine r_iload_n (pc := 8) C 3 dX9_near_8 rfl rfl ?_
  refine r_if_ne (pc := 9) (tgt := 23) C dX9_near_9 (by decide) (by first | omega | exact zand_rng _ _ | exact zor_rng _ _ | exact zxor_rng _ _ | exact BT.r (IT.b (by assumption)) _ _) (fun c9 => ?_) (fun c9 => ?_)
  · refine r_iload_n (pc := 23) C 3 dX9_near_23 rfl rfl ?_
    refine r_if_eq (pc := 24) (tgt := 33) C dX9_near_24 (by decide) (by first | omega | exact zand_rng _ _ | exact zor_rng _ _ | exact zxor_rng _ _ | exact BT.r (IT.b (by assumption)) _ _) (fun c24 => absurd c24 (by omega)) (fun c24 => ?_)
    refine r_aload_n (pc := 27) C 0 dX9_near_27 rfl rfl ?_
    refine r_iload_n (pc := 28) C 3 dX9_near_28 rfl rfl ?_
    refine r_callV (pc := 29) (is := [0, 1, 2, 3, 4, 5, 6, 7, 8]) C YX9_refuse dX9_near_29 tw_785 (c_X9_refuse l G _ _ _ _ (by first | assumption | omega | exact zand_rng _ _ | exact zor_rng _ _ | exact zxor_rng _ _ | exact BT.r (IT.b (by assumption)) _ _)) 0 0 rfl rfl (ci := 9) rfl rfl rfl (by decide) rfl rfl (Nat.le_of_ble_eq_true rfl) ⟨rfl, rfl, by decide, by decide⟩ (jst_i (R_uall ..) ?_)
    exact r_iret (pc := 32) C hQ dX9_near_32 rfl (fin_noR (by unfold q_near; (repeat (first | rw [if_pos (by omega)] | rw [if_neg (by omega)])); (try first | rfl | assumption | omega)) (by omega) rfl)
  · refine r_iload_n (pc := 12) C 2 dX9_near_12 rfl rfl ?_
    refine r_iconst (pc := 13) C dX9_near_13 ?_
    refine r_callS (pc := 14) (is := []) C YX9_isIn dX9_near_14 tw_809 (c_X9_isIn l G _ _ (by first | assumption | omega | exact zand_rng _ _ | exact zor_rng _ _ | exact zxor_rng _ _ | exact BT.r (IT.b (by assumption)) _ _) (by first | assumption | omega | exact zand_rng _ _ | exact zor_rng _ _ | exact zxor_rng _ _ | exact BT.r (IT.b (by assumption)) _ _)) rfl (by decide) rfl rfl (Nat.le_of_ble_eq_true rfl) ⟨rfl, rfl, by decide, by decide⟩ (jst_i rfl ?_)
    refine r_ifb_ne (pc := 17) (tgt := 23) C dX9_near_17 (by decide) (fun c17 => ?_) (fun c17 => ?_)
    · refine r_iload_n (pc := 23) C 3 dX9_near_23 rfl rfl ?_
      refine r_if_eq (pc := 24) (tgt := 33) C dX9_near_24 (by decide) (by first | omega | exact zand_rng _ _ | exact zor_rng _ _ | exact zxor_rng _ _ | exact BT.r (IT.b (by assumption)) _ _) (fun c24 => ?_) (fun c24 => ?_)
      · refine r_iconst (pc := 33) C dX9_near_33 ?_
        refine r_istore (pc := 34) C dX9_near_34 (Nat.le_of_ble_eq_true rfl) ?_
        refine r_bipush (pc := 36) C dX9_near_36 (by decide) ?_
        refine r_istore (pc := 38) C dX9_near_38 (Nat.le_of_ble_eq_true rfl) ?_
        refine r_iconst (pc := 40) C dX9_near_40 ?_
        refine r_istore (pc := 41) C dX9_near_41 (Nat.le_of_ble_eq_true rfl) ?_
        refine r_iconst (pc := 43) C dX9_near_43 ?_
        refine r_istore (pc := 44) C dX9_near_44 (Nat.le_of_ble_eq_true rfl) ?_
        have L46 : ∀ (n : Nat) (i : Int), 0 ≤ i → i ≤ T 0 0 → T 0 0 < i + n → Wc K G 46 [some (.ref (b 0)), some (.int (iI v)), some (.int (iI w)), none, some (.int (iI (sPurses T v i))), some (.int (iI (sRich T v i).1)), some (.int (iI (sRich T v i).2)), some (.int (iI i)), none, none] [] (wR G b R T) := by
          intro n
          induction n with
          | zero =>
            intro i h0 h1 hn; omega
          | succ n ih =>
            intro i h0 h1 hn 
            have ih46 := ih
            have hn46 := hn
            have h046 := h0
            have h146 := h1
            have hsc := sComp_r (T := T) (v := v) (p := i)
            have hpr := sPurses_r T v h0
            have hrr := sRich_r hI v h0
            refine r_iload (pc := 46) C dX9_near_46 rfl ?_
            refine r_aload_n (pc := 48) C 0 dX9_near_48 rfl rfl ?_
            refine r_get (pc := 49) C 0 0 1 dX9_near_49 in_X9 rfl rfl (ci := 9) rfl (by decide) tw_742 rfl rfl ?_
            refine r_iconst (pc := 52) C dX9_near_52 ?_
            refine r_ialoadE (pc := 53) C 2 0 dX9_near_53 rfl rfl (by decide) (by omega) (flat_0 _ (by decide)) ?_
            refine r_icmp_ge (pc := 54) (tgt := 154) C dX9_near_54 (by decide) (by first | omega | exact zand_rng _ _ | exact zor_rng _ _ | exact zxor_rng _ _ | exact BT.r (IT.b (by assumption)) _ _) (by first | omega | exact zand_rng _ _ | exact zor_rng _ _ | exact zxor_rng _ _ | exact BT.r (IT.b (by assumption)) _ _) (fun c54 => ?_) (fun c54 => ?_)
            · obtain rfl : i = T 0 0 := by omega
              refine r_iload_n (pc := 154) C 2 dX9_near_154 rfl rfl ?_
              refine r_if_ne (pc := 155) (tgt := 163) C dX9_near_155 (by decide) (by first | omega | exact zand_rng _ _ | exact zor_rng _ _ | exact zxor_rng _ _ | exact BT.r (IT.b (by assumption)) _ _) (fun c155 => ?_) (fun c155 => ?_)
              · refine r_iload (pc := 163) C dX9_near_163 rfl ?_
                exact r_iret (pc := 165) C hQ dX9_near_165 rfl (fin_okR (by unfold q_near; (repeat (first | rw [if_pos (by omega)] | rw [if_neg (by omega)])); (try first | rfl | assumption | omega)) (by unfold v_near; (repeat (first | rw [if_pos (by omega)] | rw [if_neg (by omega)])); (try rfl)) (by rfl))
              · refine r_iload (pc := 158) C dX9_near_158 rfl ?_
                refine r_goto (pc := 160) (tgt := 165) C dX9_near_160 (by decide) ?_
                exact r_iret (pc := 165) C hQ dX9_near_165 rfl (fin_okR (by unfold q_near; (repeat (first | rw [if_pos (by omega)] | rw [if_neg (by omega)])); (try first | rfl | assumption | omega)) (by unfold v_near; (repeat (first | rw [if_pos (by omega)] | rw [if_neg (by omega)])); (try rfl)) (by rfl))
            · refine r_aload_n (pc := 57) C 0 dX9_near_57 rfl rfl ?_
              refine r_iload (pc := 58) C dX9_near_58 rfl ?_
              refine r_iload_n (pc := 60) C 1 dX9_near_60 rfl rfl ?_
              refine r_callV (pc := 61) (is := [0, 1, 2, 3, 4, 5, 6, 7, 8]) C YX9_oneWith dX9_near_61 tw_978 (c_X9_oneWith l G _ _ _ _ _ (by first | assumption | omega | exact zand_rng _ _ | exact zor_rng _ _ | exact zxor_rng _ _ | exact BT.r (IT.b (by assumption)) _ _) (by first | assumption | omega | exact zand_rng _ _ | exact zor_rng _ _ | exact zxor_rng _ _ | exact BT.r (IT.b (by assumption)) _ _) (by first | assumption | omega | exact zand_rng _ _ | exact zor_rng _ _ | exact zxor_rng _ _ | exact BT.r (IT.b (by assumption)) _ _)) 0 0 rfl rfl (ci := 9) rfl rfl rfl (by decide) rfl rfl (Nat.le_of_ble_eq_true rfl) ⟨rfl, rfl, by decide, by decide⟩ (jst_i (R_uall ..) ?_)
              refine r_iload (pc := 64) C dX9_near_64 rfl ?_
              refine r_icmp_eq (pc := 66) (tgt := 72) C dX9_near_66 (by decide) (by first | omega | exact zand_rng _ _ | exact zor_rng _ _ | exact zxor_rng _ _ | exact BT.r (IT.b (by assumption)) _ _) (by first | omega | exact zand_rng _ _ | exact zor_rng _ _ | exact zxor_rng _ _ | exact BT.r (IT.b (by assumption)) _ _) (fun c66 => ?_) (fun c66 => ?_)
              · refine r_iinc (pc := 72) C dX9_near_72 rfl ?_
                refine r_iconst (pc := 75) C dX9_near_75 ?_
                refine r_istore (pc := 76) C dX9_near_76 (Nat.le_of_ble_eq_true rfl) ?_
                refine r_iconst (pc := 78) C dX9_near_78 ?_
                refine r_istore (pc := 79) C dX9_near_79 (Nat.le_of_ble_eq_true rfl) ?_
                have L81 : ∀ (n : Nat) (j : Int), 0 ≤ j → j ≤ T 0 0 → T 0 0 < j + n → Wc K G 81 [some (.ref (b 0)), some (.int (iI v)), some (.int (iI w)), none, some (.int (iI (sPurses T v i + 1))), some (.int (iI (sRich T v i).1)), some (.int (iI (sRich T v i).2)), some (.int (iI i)), some (.int (iI (sLed T v i j))), some (.int (iI j))] [] (wR G b R T) := by
                  intro n
                  induction n with
                  | zero =>
                    intro j h80 h81 h82; omega
                  | succ n ih =>
                    intro j h80 h81 h82
                    have hsj := sComp_r (T := T) (v := v) (p := j)
                    have hld := sLed_r hI v i h80 h81
                    refine r_iload (pc := 81) C dX9_near_81 rfl ?_
                    refine r_aload_n (pc := 83) C 0 dX9_near_83 rfl rfl ?_
                    refine r_get (pc := 84) C 0 0 1 dX9_near_84 in_X9 rfl rfl (ci := 9) rfl (by decide) tw_742 rfl rfl ?_
                    refine r_iconst (pc := 87) C dX9_near_87 ?_
                    refine r_ialoadE (pc := 88) C 2 0 dX9_near_88 rfl rfl (by decide) (by omega) (flat_0 _ (by decide)) ?_
                    refine r_icmp_ge (pc := 89) (tgt := 125) C dX9_near_89 (by decide) (by first | omega | exact zand_rng _ _ | exact zor_rng _ _ | exact zxor_rng _ _ | exact BT.r (IT.b (by assumption)) _ _) (by first | omega | exact zand_rng _ _ | exact zor_rng _ _ | exact zxor_rng _ _ | exact BT.r (IT.b (by assumption)) _ _) (fun c89 => ?_) (fun c89 => ?_)
                    · obtain rfl : j = T 0 0 := by omega
                      refine r_iload (pc := 125) C dX9_near_125 rfl ?_
                      refine r_if_lt (pc := 127) (tgt := 140) C dX9_near_127 (by decide) (by first | omega | exact zand_rng _ _ | exact zor_rng _ _ | exact zxor_rng _ _ | exact BT.r (IT.b (by assumption)) _ _) (fun c127 => ?_) (fun c127 => ?_)
                      · refine r_iload (pc := 140) C dX9_near_140 rfl ?_
                        refine r_istore (pc := 142) C dX9_near_142 (Nat.le_of_ble_eq_true rfl) ?_
                        refine r_iload (pc := 144) C dX9_near_144 rfl ?_
                        refine r_istore (pc := 146) C dX9_near_146 (Nat.le_of_ble_eq_true rfl) ?_
                        refine r_iinc (pc := 148) C dX9_near_148 rfl ?_
                        refine r_goto (pc := 151) (tgt := 46) C dX9_near_151 (by decide) ?_
                        refine Wc.to (ih46 (i + 1) (by omega) (by omega) (by omega) ) rfl (lsub_s (by first | rfl | (first | (rw [sPurses_s T v h0]; first | rw [if_pos (by omega)] | (rw [if_neg (by omega), Int.add_zero])) | (rw [sRich_s T v h0]; first | (rw [if_pos (by omega)]; done) | (rw [if_neg (by omega)]; done) | (rw [if_pos (by omega)]; rfl) | (rw [if_neg (by omega)]; rfl)))) (lsub_s (by first | rfl | (first | (rw [sPurses_s T v h0]; first | rw [if_pos (by omega)] | (rw [if_neg (by omega), Int.add_zero])) | (rw [sRich_s T v h0]; first | (rw [if_pos (by omega)]; done) | (rw [if_neg (by omega)]; done) | (rw [if_pos (by omega)]; rfl) | (rw [if_neg (by omega)]; rfl)))) (lsub_s (by first | rfl | (first | (rw [sPurses_s T v h0]; first | rw [if_pos (by omega)] | (rw [if_neg (by omega), Int.add_zero])) | (rw [sRich_s T v h0]; first | (rw [if_pos (by omega)]; done) | (rw [if_neg (by omega)]; done) | (rw [if_pos (by omega)]; rfl) | (rw [if_neg (by omega)]; rfl)))) (lsub_n (lsub_s (by first | rfl | (first | (rw [sPurses_s T v h0]; first | rw [if_pos (by omega)] | (rw [if_neg (by omega), Int.add_zero])) | (rw [sRich_s T v h0]; first | (rw [if_pos (by omega)]; done) | (rw [if_neg (by omega)]; done) | (rw [if_pos (by omega)]; rfl) | (rw [if_neg (by omega)]; rfl)))) (lsub_s (by first | rfl | (first | (rw [sPurses_s T v h0]; first | rw [if_pos (by omega)] | (rw [if_neg (by omega), Int.add_zero])) | (rw [sRich_s T v h0]; first | (rw [if_pos (by omega)]; done) | (rw [if_neg (by omega)]; done) | (rw [if_pos (by omega)]; rfl) | (rw [if_neg (by omega)]; rfl)))) (lsub_s (by first | rfl | (first | (rw [sPurses_s T v h0]; first | rw [if_pos (by omega)] | (rw [if_neg (by omega), Int.add_zero])) | (rw [sRich_s T v h0]; first | (rw [if_pos (by omega)]; done) | (rw [if_neg (by omega)]; done) | (rw [if_pos (by omega)]; rfl) | (rw [if_neg (by omega)]; rfl)))) (lsub_s (by first | rfl | (first | (rw [sPurses_s T v h0]; first | rw [if_pos (by omega)] | (rw [if_neg (by omega), Int.add_zero])) | (rw [sRich_s T v h0]; first | (rw [if_pos (by omega)]; done) | (rw [if_neg (by omega)]; done) | (rw [if_pos (by omega)]; rfl) | (rw [if_neg (by omega)]; rfl)))) (lsub_n (lsub_n lsub_0)))))))))) (by rfl)
                      · refine r_iload (pc := 130) C dX9_near_130 rfl ?_
                        refine r_iload (pc := 132) C dX9_near_132 rfl ?_
                        refine r_icmp_gt (pc := 134) (tgt := 140) C dX9_near_134 (by decide) (by first | omega | exact zand_rng _ _ | exact zor_rng _ _ | exact zxor_rng _ _ | exact BT.r (IT.b (by assumption)) _ _) (by first | omega | exact zand_rng _ _ | exact zor_rng _ _ | exact zxor_rng _ _ | exact BT.r (IT.b (by assumption)) _ _) (fun c134 => ?_) (fun c134 => ?_)
                        · refine r_iload (pc := 140) C dX9_near_140 rfl ?_
                          refine r_istore (pc := 142) C dX9_near_142 (Nat.le_of_ble_eq_true rfl) ?_
                          refine r_iload (pc := 144) C dX9_near_144 rfl ?_
                          refine r_istore (pc := 146) C dX9_near_146 (Nat.le_of_ble_eq_true rfl) ?_
                          refine r_iinc (pc := 148) C dX9_near_148 rfl ?_
                          refine r_goto (pc := 151) (tgt := 46) C dX9_near_151 (by decide) ?_
                          refine Wc.to (ih46 (i + 1) (by omega) (by omega) (by omega) ) rfl (lsub_s (by first | rfl | (first | (rw [sPurses_s T v h0]; first | rw [if_pos (by omega)] | (rw [if_neg (by omega), Int.add_zero])) | (rw [sRich_s T v h0]; first | (rw [if_pos (by omega)]; done) | (rw [if_neg (by omega)]; done) | (rw [if_pos (by omega)]; rfl) | (rw [if_neg (by omega)]; rfl)))) (lsub_s (by first | rfl | (first | (rw [sPurses_s T v h0]; first | rw [if_pos (by omega)] | (rw [if_neg (by omega), Int.add_zero])) | (rw [sRich_s T v h0]; first | (rw [if_pos (by omega)]; done) | (rw [if_neg (by omega)]; done) | (rw [if_pos (by omega)]; rfl) | (rw [if_neg (by omega)]; rfl)))) (lsub_s (by first | rfl | (first | (rw [sPurses_s T v h0]; first | rw [if_pos (by omega)] | (rw [if_neg (by omega), Int.add_zero])) | (rw [sRich_s T v h0]; first | (rw [if_pos (by omega)]; done) | (rw [if_neg (by omega)]; done) | (rw [if_pos (by omega)]; rfl) | (rw [if_neg (by omega)]; rfl)))) (lsub_n (lsub_s (by first | rfl | (first | (rw [sPurses_s T v h0]; first | rw [if_pos (by omega)] | (rw [if_neg (by omega), Int.add_zero])) | (rw [sRich_s T v h0]; first | (rw [if_pos (by omega)]; done) | (rw [if_neg (by omega)]; done) | (rw [if_pos (by omega)]; rfl) | (rw [if_neg (by omega)]; rfl)))) (lsub_s (by first | rfl | (first | (rw [sPurses_s T v h0]; first | rw [if_pos (by omega)] | (rw [if_neg (by omega), Int.add_zero])) | (rw [sRich_s T v h0]; first | (rw [if_pos (by omega)]; done) | (rw [if_neg (by omega)]; done) | (rw [if_pos (by omega)]; rfl) | (rw [if_neg (by omega)]; rfl)))) (lsub_s (by first | rfl | (first | (rw [sPurses_s T v h0]; first | rw [if_pos (by omega)] | (rw [if_neg (by omega), Int.add_zero])) | (rw [sRich_s T v h0]; first | (rw [if_pos (by omega)]; done) | (rw [if_neg (by omega)]; done) | (rw [if_pos (by omega)]; rfl) | (rw [if_neg (by omega)]; rfl)))) (lsub_s (by first | rfl | (first | (rw [sPurses_s T v h0]; first | rw [if_pos (by omega)] | (rw [if_neg (by omega), Int.add_zero])) | (rw [sRich_s T v h0]; first | (rw [if_pos (by omega)]; done) | (rw [if_neg (by omega)]; done) | (rw [if_pos (by omega)]; rfl) | (rw [if_neg (by omega)]; rfl)))) (lsub_n (lsub_n lsub_0)))))))))) (by rfl)
                        · refine r_goto (pc := 137) (tgt := 148) C dX9_near_137 (by decide) ?_
                          refine r_iinc (pc := 148) C dX9_near_148 rfl ?_
                          refine r_goto (pc := 151) (tgt := 46) C dX9_near_151 (by decide) ?_
                          refine Wc.to (ih46 (i + 1) (by omega) (by omega) (by omega) ) rfl (lsub_s (by first | rfl | (first | (rw [sPurses_s T v h0]; first | rw [if_pos (by omega)] | (rw [if_neg (by omega), Int.add_zero])) | (rw [sRich_s T v h0]; first | (rw [if_pos (by omega)]; done) | (rw [if_neg (by omega)]; done) | (rw [if_pos (by omega)]; rfl) | (rw [if_neg (by omega)]; rfl)))) (lsub_s (by first | rfl | (first | (rw [sPurses_s T v h0]; first | rw [if_pos (by omega)] | (rw [if_neg (by omega), Int.add_zero])) | (rw [sRich_s T v h0]; first | (rw [if_pos (by omega)]; done) | (rw [if_neg (by omega)]; done) | (rw [if_pos (by omega)]; rfl) | (rw [if_neg (by omega)]; rfl)))) (lsub_s (by first | rfl | (first | (rw [sPurses_s T v h0]; first | rw [if_pos (by omega)] | (rw [if_neg (by omega), Int.add_zero])) | (rw [sRich_s T v h0]; first | (rw [if_pos (by omega)]; done) | (rw [if_neg (by omega)]; done) | (rw [if_pos (by omega)]; rfl) | (rw [if_neg (by omega)]; rfl)))) (lsub_n (lsub_s (by first | rfl | (first | (rw [sPurses_s T v h0]; first | rw [if_pos (by omega)] | (rw [if_neg (by omega), Int.add_zero])) | (rw [sRich_s T v h0]; first | (rw [if_pos (by omega)]; done) | (rw [if_neg (by omega)]; done) | (rw [if_pos (by omega)]; rfl) | (rw [if_neg (by omega)]; rfl)))) (lsub_s (by first | rfl | (first | (rw [sPurses_s T v h0]; first | rw [if_pos (by omega)] | (rw [if_neg (by omega), Int.add_zero])) | (rw [sRich_s T v h0]; first | (rw [if_pos (by omega)]; done) | (rw [if_neg (by omega)]; done) | (rw [if_pos (by omega)]; rfl) | (rw [if_neg (by omega)]; rfl)))) (lsub_s (by first | rfl | (first | (rw [sPurses_s T v h0]; first | rw [if_pos (by omega)] | (rw [if_neg (by omega), Int.add_zero])) | (rw [sRich_s T v h0]; first | (rw [if_pos (by omega)]; done) | (rw [if_neg (by omega)]; done) | (rw [if_pos (by omega)]; rfl) | (rw [if_neg (by omega)]; rfl)))) (lsub_s (by first | rfl | (first | (rw [sPurses_s T v h0]; first | rw [if_pos (by omega)] | (rw [if_neg (by omega), Int.add_zero])) | (rw [sRich_s T v h0]; first | (rw [if_pos (by omega)]; done) | (rw [if_neg (by omega)]; done) | (rw [if_pos (by omega)]; rfl) | (rw [if_neg (by omega)]; rfl)))) (lsub_n (lsub_n lsub_0)))))))))) (by rfl)
                    · refine r_iload (pc := 92) C dX9_near_92 rfl ?_
                      refine r_aload_n (pc := 94) C 0 dX9_near_94 rfl rfl ?_
                      refine r_iload (pc := 95) C dX9_near_95 rfl ?_
                      refine r_iload_n (pc := 97) C 1 dX9_near_97 rfl rfl ?_
                      refine r_callV (pc := 98) (is := [0, 1, 2, 3, 4, 5, 6, 7, 8]) C YX9_oneWith dX9_near_98 tw_978 (c_X9_oneWith l G _ _ _ _ _ (by first | assumption | omega | exact zand_rng _ _ | exact zor_rng _ _ | exact zxor_rng _ _ | exact BT.r (IT.b (by assumption)) _ _) (by first | assumption | omega | exact zand_rng _ _ | exact zor_rng _ _ | exact zxor_rng _ _ | exact BT.r (IT.b (by assumption)) _ _) (by first | assumption | omega | exact zand_rng _ _ | exact zor_rng _ _ | exact zxor_rng _ _ | exact BT.r (IT.b (by assumption)) _ _)) 0 0 rfl rfl (ci := 9) rfl rfl rfl (by decide) rfl rfl (Nat.le_of_ble_eq_true rfl) ⟨rfl, rfl, by decide, by decide⟩ (jst_i (R_uall ..) ?_)
                      refine r_iload (pc := 101) C dX9_near_101 rfl ?_
                      refine r_icmp_ne (pc := 103) (tgt := 115) C dX9_near_103 (by decide) (by first | omega | exact zand_rng _ _ | exact zor_rng _ _ | exact zxor_rng _ _ | exact BT.r (IT.b (by assumption)) _ _) (by first | omega | exact zand_rng _ _ | exact zor_rng _ _ | exact zxor_rng _ _ | exact BT.r (IT.b (by assumption)) _ _) (fun c103 => ?_) (fun c103 => ?_)
                      · refine r_iconst (pc := 115) C dX9_near_115 ?_
                        refine r_iadd (pc := 116) C dX9_near_116 ?_
                        refine r_istore (pc := 117) C dX9_near_117 (Nat.le_of_ble_eq_true rfl) ?_
                        refine r_iinc (pc := 119) C dX9_near_119 rfl ?_
                        refine r_goto (pc := 122) (tgt := 81) C dX9_near_122 (by decide) ?_
                        refine Wc.to (ih (j + 1) (by omega) (by omega) (by omega)) rfl (lsub_s rfl (lsub_s rfl (lsub_s rfl (lsub_n (lsub_s rfl (lsub_s rfl (lsub_s rfl (lsub_s rfl (lsub_s (by rw [sLed_s T v i h80]; first | rw [if_pos (by omega)] | rw [if_neg (by omega)]) (lsub_s rfl lsub_0)))))))))) rfl
                      · refine r_aload_n (pc := 106) C 0 dX9_near_106 rfl rfl ?_
                        refine r_iload (pc := 107) C dX9_near_107 rfl ?_
                        refine r_callV (pc := 109) (is := [0, 1, 2, 3, 4, 5, 6, 7, 8]) C YX9_purseOf dX9_near_109 tw_838 (c_X9_purseOf l G _ _ _ _ (by first | assumption | omega | exact zand_rng _ _ | exact zor_rng _ _ | exact zxor_rng _ _ | exact BT.r (IT.b (by assumption)) _ _) (by first | assumption | omega | exact zand_rng _ _ | exact zor_rng _ _ | exact zxor_rng _ _ | exact BT.r (IT.b (by assumption)) _ _)) 0 0 rfl rfl (ci := 9) rfl rfl rfl (by decide) rfl rfl (Nat.le_of_ble_eq_true rfl) ⟨rfl, rfl, by decide, by decide⟩ (jst_i (R_uall ..) ?_)
                        have hpj := sPurse_r hI j hDD.1 (Int.le_refl _)
                        refine r_goto (pc := 112) (tgt := 116) C dX9_near_112 (by decide) ?_
                        refine r_iadd (pc := 116) C dX9_near_116 ?_
                        refine r_istore (pc := 117) C dX9_near_117 (Nat.le_of_ble_eq_true rfl) ?_
                        refine r_iinc (pc := 119) C dX9_near_119 rfl ?_
                        refine r_goto (pc := 122) (tgt := 81) C dX9_near_122 (by decide) ?_
                        refine Wc.to (ih (j + 1) (by omega) (by omega) (by omega)) rfl (lsub_s rfl (lsub_s rfl (lsub_s rfl (lsub_n (lsub_s rfl (lsub_s rfl (lsub_s rfl (lsub_s rfl (lsub_s (by rw [sLed_s T v i h80]; first | rw [if_pos (by omega)] | rw [if_neg (by omega)]) (lsub_s rfl lsub_0)))))))))) rfl
                refine Wc.to (L81 7 0 (by omega) (by omega) (by omega)) rfl (lsub_s rfl (lsub_s rfl (lsub_s rfl (lsub_n (lsub_s rfl (lsub_s rfl (lsub_s rfl (lsub_s rfl (lsub_s rfl (lsub_s rfl lsub_0)))))))))) rfl
              · refine r_goto (pc := 69) (tgt := 148) C dX9_near_69 (by decide) ?_
                refine r_iinc (pc := 148) C dX9_near_148 rfl ?_
                refine r_goto (pc := 151) (tgt := 46) C dX9_near_151 (by decide) ?_
                refine Wc.to (ih46 (i + 1) (by omega) (by omega) (by omega) ) rfl (lsub_s (by first | rfl | (first | (rw [sPurses_s T v h0]; first | rw [if_pos (by omega)] | (rw [if_neg (by omega), Int.add_zero])) | (rw [sRich_s T v h0]; first | (rw [if_pos (by omega)]; done) | (rw [if_neg (by omega)]; done) | (rw [if_pos (by omega)]; rfl) | (rw [if_neg (by omega)]; rfl)))) (lsub_s (by first | rfl | (first | (rw [sPurses_s T v h0]; first | rw [if_pos (by omega)] | (rw [if_neg (by omega), Int.add_zero])) | (rw [sRich_s T v h0]; first | (rw [if_pos (by omega)]; done) | (rw [if_neg (by omega)]; done) | (rw [if_pos (by omega)]; rfl) | (rw [if_neg (by omega)]; rfl)))) (lsub_s (by first | rfl | (first | (rw [sPurses_s T v h0]; first | rw [if_pos (by omega)] | (rw [if_neg (by omega), Int.add_zero])) | (rw [sRich_s T v h0]; first | (rw [if_pos (by omega)]; done) | (rw [if_neg (by omega)]; done) | (rw [if_pos (by omega)]; rfl) | (rw [if_neg (by omega)]; rfl)))) (lsub_n (lsub_s (by first | rfl | (first | (rw [sPurses_s T v h0]; first | rw [if_pos (by omega)] | (rw [if_neg (by omega), Int.add_zero])) | (rw [sRich_s T v h0]; first | (rw [if_pos (by omega)]; done) | (rw [if_neg (by omega)]; done) | (rw [if_pos (by omega)]; rfl) | (rw [if_neg (by omega)]; rfl)))) (lsub_s (by first | rfl | (first | (rw [sPurses_s T v h0]; first | rw [if_pos (by omega)] | (rw [if_neg (by omega), Int.add_zero])) | (rw [sRich_s T v h0]; first | (rw [if_pos (by omega)]; done) | (rw [if_neg (by omega)]; done) | (rw [if_pos (by omega)]; rfl) | (rw [if_neg (by omega)]; rfl)))) (lsub_s (by first | rfl | (first | (rw [sPurses_s T v h0]; first | rw [if_pos (by omega)] | (rw [if_neg (by omega), Int.add_zero])) | (rw [sRich_s T v h0]; first | (rw [if_pos (by omega)]; done) | (rw [if_neg (by omega)]; done) | (rw [if_pos (by omega)]; rfl) | (rw [if_neg (by omega)]; rfl)))) (lsub_s (by first | rfl | (first | (rw [sPurses_s T v h0]; first | rw [if_pos (by omega)] | (rw [if_neg (by omega), Int.add_zero])) | (rw [sRich_s T v h0]; first | (rw [if_pos (by omega)]; done) | (rw [if_neg (by omega)]; done) | (rw [if_pos (by omega)]; rfl) | (rw [if_neg (by omega)]; rfl)))) (lsub_n (lsub_n lsub_0)))))))))) (by rfl)
        refine Wc.to (L46 ((T 0 0 - (0)).toNat + 1) (0) (by omega) (by omega) (by omega) ) rfl (lsub_s rfl (lsub_s rfl (lsub_s rfl (lsub_n (lsub_s rfl (lsub_s rfl (lsub_s rfl (lsub_s rfl (lsub_n (lsub_n lsub_0)))))))))) (by rfl)
      · refine r_aload_n (pc := 27) C 0 dX9_near_27 rfl rfl ?_
        refine r_iload_n (pc := 28) C 3 dX9_near_28 rfl rfl ?_
        refine r_callV (pc := 29) (is := [0, 1, 2, 3, 4, 5, 6, 7, 8]) C YX9_refuse dX9_near_29 tw_785 (c_X9_refuse l G _ _ _ _ (by first | assumption | omega | exact zand_rng _ _ | exact zor_rng _ _ | exact zxor_rng _ _ | exact BT.r (IT.b (by assumption)) _ _)) 0 0 rfl rfl (ci := 9) rfl rfl rfl (by decide) rfl rfl (Nat.le_of_ble_eq_true rfl) ⟨rfl, rfl, by decide, by decide⟩ (jst_i (R_uall ..) ?_)
        exact r_iret (pc := 32) C hQ dX9_near_32 rfl (fin_noR (by unfold q_near; (repeat (first | rw [if_pos (by omega)] | rw [if_neg (by omega)])); (try first | rfl | assumption | omega)) (by omega) rfl)
    · refine r_bipush (pc := 20) C dX9_near_20 (by decide) ?_
      refine r_istore_n (pc := 22) C 3 dX9_near_22 rfl (Nat.le_of_ble_eq_true rfl) ?_
      refine r_iload_n (pc := 23) C 3 dX9_near_23 rfl rfl ?_
      refine r_if_eq (pc := 24) (tgt := 33) C dX9_near_24 (by decide) (by first | omega | exact zand_rng _ _ | exact zor_rng _ _ | exact zxor_rng _ _ | exact BT.r (IT.b (by assumption)) _ _) (fun c24 => absurd c24 (by omega)) (fun c24 => ?_)
      refine r_aload_n (pc := 27) C 0 dX9_near_27 rfl rfl ?_
      refine r_iload_n (pc := 28) C 3 dX9_near_28 rfl rfl ?_
      refine r_callV (pc := 29) (is := [0, 1, 2, 3, 4, 5, 6, 7, 8]) C YX9_refuse dX9_near_29 tw_785 (c_X9_refuse l G _ _ _ _ (by first | assumption | omega | exact zand_rng _ _ | exact zor_rng _ _ | exact zxor_rng _ _ | exact BT.r (IT.b (by assumption)) _ _)) 0 0 rfl rfl (ci := 9) rfl rfl rfl (by decide) rfl rfl (Nat.le_of_ble_eq_true rfl) ⟨rfl, rfl, by decide, by decide⟩ (jst_i (R_uall ..) ?_)
      exact r_iret (pc := 32) C hQ dX9_near_32 rfl (fin_noR (by unfold q_near; (repeat (first | rw [if_pos (by omega)] | rw [if_neg (by omega)])); (try first | rfl | assumption | omega)) (by omega) rfl)

set_option maxRecDepth 100000 in
set_option maxHeartbeats 4000000 in
theorem c_X9_whose (l : Launch) (G : GT) (b : Nat → Nat) (R T : Tn) (z v : Int) (hI : IT T) (hR : IR R) (gz : -2147483648 ≤ z ∧ z < 2147483648) (gv : -2147483648 ≤ v ∧ v < 2147483648) : Cn l yX9_whose cX9_whose 4 (Option.some .int) ({ frames := 3, cells := 0, slots := 0, locals := 68 }) G [.ref (b 0), .int (iI z), .int (iI v)] (wR G b R T) (jst (some (.int (iI (zans (q_lo T z v 0 18) (sComp T v z))))) (wR G b (zif (q_lo T z v 0 18) (R) (rfs R (q_lo T z v 0 18))) (zif (q_lo T z v 0 18) (T) T))) := by
  refine Cn_in RX9 [some (.ref (b 0)), some (.int (iI z)), some (.int (iI v)), none] (by decide +kernel) rfl rfl rfl (Nat.le_of_ble_eq_true rfl) (fun K C hQ => ?_)
  obtain ⟨r0, r1, r3, r6, r8⟩ := hR
  have hBB := hI.b
  have hLL := hI.L
  have hDD := hI.D
  refine r_aload_n (pc := 0) C 0 dX9_whose_0 rfl rfl ?_
  refine r_iload_n (pc := 1) C 1 dX9_whose_1 rfl rfl ?_
  refine r_callV (pc := 2) (is := [0, 1, 2, 3, 4, 5, 6, 7, 8]) C YX9_isLoft dX9_whose_2 tw_834 (c_X9_isLoft l G _ _ _ _ (by first | assumption | omega | exact zand_rng _ _ | exact zor_rng _ _ | exact zxor_rng _ _ | exact BT.r (IT.b (by assumption)) _ _) (by first | assumption | omega | exact zand_rng _ _ | exact zor_rng _ _ | exact zxor_rng _ _ | exact BT.r (IT.b (by assumption)) _ _)) 0 0 rfl rfl (ci := 9) rfl rfl rfl (by decide) rfl rfl (Nat.le_of_ble_eq_true rfl) ⟨rfl, rfl, by decide, by decide⟩ (jst_i (R_uall ..) ?_)
  refine r_ifb_eq (pc := 5) (tgt := 18) C dX9_whose_5 (by decide) (fun c5 => ?_) (fun c5 => ?_)
  · refine r_iconst (pc := 18) C dX9_whose_18 ?_
    refine r_istore_n (pc := 19) C 3 dX9_whose_19 rfl (Nat.le_of_ble_eq_true rfl) ?_
    refine r_iload_n (pc := 20) C 3 dX9_whose_20 rfl rfl ?_
    refine r_if_eq (pc := 21) (tgt := 32) C dX9_whose_21 (by decide) (by first | omega | exact zand_rng _ _ | exact zor_rng _ _ | exact zxor_rng _ _ | exact BT.r (IT.b (by assumption)) _ _) (fun c21 => absurd c21 (by omega)) (fun c21 => ?_)
    refine r_aload_n (pc := 24) C 0 dX9_whose_24 rfl rfl ?_
    refine r_iload_n (pc := 25) C 3 dX9_whose_25 rfl rfl ?_
    refine r_callV (pc := 26) (is := [0, 1, 2, 3, 4, 5, 6, 7, 8]) C YX9_refuse dX9_whose_26 tw_785 (c_X9_refuse l G _ _ _ _ (by first | assumption | omega | exact zand_rng _ _ | exact zor_rng _ _ | exact zxor_rng _ _ | exact BT.r (IT.b (by assumption)) _ _)) 0 0 rfl rfl (ci := 9) rfl rfl rfl (by decide) rfl rfl (Nat.le_of_ble_eq_true rfl) ⟨rfl, rfl, by decide, by decide⟩ (jst_i (R_uall ..) ?_)
    refine r_goto (pc := 29) (tgt := 38) C dX9_whose_29 (by decide) ?_
    exact r_iret (pc := 38) C hQ dX9_whose_38 rfl (fin_noR (by unfold q_lo; (repeat (first | rw [if_pos (by omega)] | rw [if_neg (by omega)])); (try first | rfl | assumption | omega)) (by omega) rfl)
  · refine r_iload_n (pc := 8) C 2 dX9_whose_8 rfl rfl ?_
    refine r_iconst (pc := 9) C dX9_whose_9 ?_
    refine r_bipush (pc := 10) C dX9_whose_10 (by decide) ?_
    refine r_callS (pc := 12) (is := []) C YX9_within dX9_whose_12 tw_782 (c_X9_within l G _ _ _ (by first | assumption | omega | exact zand_rng _ _ | exact zor_rng _ _ | exact zxor_rng _ _ | exact BT.r (IT.b (by assumption)) _ _) (by first | assumption | omega | exact zand_rng _ _ | exact zor_rng _ _ | exact zxor_rng _ _ | exact BT.r (IT.b (by assumption)) _ _) (by first | assumption | omega | exact zand_rng _ _ | exact zor_rng _ _ | exact zxor_rng _ _ | exact BT.r (IT.b (by assumption)) _ _)) rfl (by decide) rfl rfl (Nat.le_of_ble_eq_true rfl) ⟨rfl, rfl, by decide, by decide⟩ (jst_i rfl ?_)
    have hs12 := sOut_r v 0 18 (by decide)
    refine r_goto (pc := 15) (tgt := 19) C dX9_whose_15 (by decide) ?_
    refine r_istore_n (pc := 19) C 3 dX9_whose_19 rfl (Nat.le_of_ble_eq_true rfl) ?_
    refine r_iload_n (pc := 20) C 3 dX9_whose_20 rfl rfl ?_
    refine r_if_eq (pc := 21) (tgt := 32) C dX9_whose_21 (by decide) (by first | omega | exact zand_rng _ _ | exact zor_rng _ _ | exact zxor_rng _ _ | exact BT.r (IT.b (by assumption)) _ _) (fun c21 => ?_) (fun c21 => ?_)
    · refine r_aload_n (pc := 32) C 0 dX9_whose_32 rfl rfl ?_
      refine r_iload_n (pc := 33) C 1 dX9_whose_33 rfl rfl ?_
      refine r_iload_n (pc := 34) C 2 dX9_whose_34 rfl rfl ?_
      refine r_callV (pc := 35) (is := [0, 1, 2, 3, 4, 5, 6, 7, 8]) C YX9_oneWith dX9_whose_35 tw_978 (c_X9_oneWith l G _ _ _ _ _ (by first | assumption | omega | exact zand_rng _ _ | exact zor_rng _ _ | exact zxor_rng _ _ | exact BT.r (IT.b (by assumption)) _ _) (by first | assumption | omega | exact zand_rng _ _ | exact zor_rng _ _ | exact zxor_rng _ _ | exact BT.r (IT.b (by assumption)) _ _) (by first | assumption | omega | exact zand_rng _ _ | exact zor_rng _ _ | exact zxor_rng _ _ | exact BT.r (IT.b (by assumption)) _ _)) 0 0 rfl rfl (ci := 9) rfl rfl rfl (by decide) rfl rfl (Nat.le_of_ble_eq_true rfl) ⟨rfl, rfl, by decide, by decide⟩ (jst_i (R_uall ..) ?_)
      exact r_iret (pc := 38) C hQ dX9_whose_38 rfl (fin_okR (by unfold q_lo; (repeat (first | rw [if_pos (by omega)] | rw [if_neg (by omega)])); (try first | rfl | assumption | omega)) (by first | rfl | omega) (by rfl))
    · refine r_aload_n (pc := 24) C 0 dX9_whose_24 rfl rfl ?_
      refine r_iload_n (pc := 25) C 3 dX9_whose_25 rfl rfl ?_
      refine r_callV (pc := 26) (is := [0, 1, 2, 3, 4, 5, 6, 7, 8]) C YX9_refuse dX9_whose_26 tw_785 (c_X9_refuse l G _ _ _ _ (by first | assumption | omega | exact zand_rng _ _ | exact zor_rng _ _ | exact zxor_rng _ _ | exact BT.r (IT.b (by assumption)) _ _)) 0 0 rfl rfl (ci := 9) rfl rfl rfl (by decide) rfl rfl (Nat.le_of_ble_eq_true rfl) ⟨rfl, rfl, by decide, by decide⟩ (jst_i (R_uall ..) ?_)
      refine r_goto (pc := 29) (tgt := 38) C dX9_whose_29 (by decide) ?_
      exact r_iret (pc := 38) C hQ dX9_whose_38 rfl (fin_noR (by unfold q_lo; (repeat (first | rw [if_pos (by omega)] | rw [if_neg (by omega)])); (try first | rfl | assumption | omega)) (by omega) rfl)

