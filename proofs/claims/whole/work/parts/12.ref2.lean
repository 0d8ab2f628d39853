theorem sOut_r (v lo hi : Int) (h : lo ≤ hi) : (sOut v lo hi = 0 ∧ lo ≤ v ∧ v ≤ hi) ∨ (sOut v lo hi = -4 ∧ v < lo) ∨ (sOut v lo hi = -6 ∧ hi < v) := by
  unfold sOut
  split
  · omega
  · split <;> omega
/-- the answer, where q is the refusal or 0 -/
def zans (q v : Int) : Int := if q = 0 then v else q
def zif {α : Type} (q : Int) (a b : α) : α := if q = 0 then a else b
/-- a refusal is counted -/
def rfs (R : Tn) (q : Int) : Tn := up R 1 (-q) (R 1 (-q) + 1)
theorem fin_okR {G : GT} {b : Nat → Nat} {q x v : Int} {R1 R2 T1 T2 : Tn} {gs : List va_W} (hq : q = 0) (hv : x = v) (hR : gs = wR G b R1 T1) : jst (some (.int (iI (zans q v)))) (wR G b (zif q R1 R2) (zif q T1 T2)) (some (.int (iI x))) gs := by
  subst hv hR
  unfold zans zif
  rw [if_pos hq, if_pos hq, if_pos hq]
  exact ⟨rfl, rfl⟩
theorem fin_noR {G : GT} {b : Nat → Nat} {q c v : Int} {R1 R T1 T : Tn} {gs : List va_W} (hq : q = c) (hc : c ≠ 0) (hR : gs = wR G b (rfs R c) T) : jst (some (.int (iI (zans q v)))) (wR G b (zif q R1 (rfs R q)) (zif q T1 T)) (some (.int (iI c))) gs := by
  subst hq hR
  unfold zans zif
  rw [if_neg hc, if_neg hc, if_neg hc]
  exact ⟨rfl, rfl⟩
/-- a bit becomes i -/
def sSet (s d i : Int) : Int := if zbit s d = i then s else if i = 1 then s + zp2 d else s - zp2 d
theorem sSet_k : ∀ s : Nat, s < 64 → ∀ d : Nat, d < 6 → zor (s : Int) (1 * zp2 (d : Int)) = sSet s d 1 ∧ zand (s : Int) (zxor (1 * zp2 (d : Int)) (-1)) = sSet s d 0 := by decide +kernel
theorem sSet_or {s d : Int} (hs : 0 ≤ s ∧ s < 64) (hd : 0 ≤ d ∧ d < 6) : zor s (1 * zp2 d) = sSet s d 1 := by
  have := (sSet_k s.toNat (by omega) d.toNat (by omega)).1
  rw [show (s.toNat : Int) = s by omega, show (d.toNat : Int) = d by omega] at this
  exact this
theorem sSet_an {s d : Int} (hs : 0 ≤ s ∧ s < 64) (hd : 0 ≤ d ∧ d < 6) : zand s (zxor (1 * zp2 d) (-1)) = sSet s d 0 := by
  have := (sSet_k s.toNat (by omega) d.toNat (by omega)).2
  rw [show (s.toNat : Int) = s by omega, show (d.toNat : Int) = d by omega] at this
  exact this
theorem zp2_kr : ∀ L : Nat, L < 9 → 1 ≤ zp2 (L : Int) ∧ zp2 (L : Int) ≤ 256 := by decide
theorem zp2_r {L : Int} (h : 0 ≤ L ∧ L < 9) : 1 ≤ zp2 L ∧ zp2 L ≤ 256 := by
  have := zp2_kr L.toNat (by omega)
  rw [show (L.toNat : Int) = L by omega] at this
  exact this
/-- the first n below i that is so -/
def sFind (p : Int → Prop) [DecidablePred p] (i : Int) : Int := it (fun n r => if r < 0 ∧ p n then n else r) (-9) i
theorem sFind_s (p : Int → Prop) [DecidablePred p] {i : Int} (h : 0 ≤ i) : sFind p (i + 1) = if sFind p i < 0 ∧ p i then i else sFind p i := it_s _ _ h
theorem sFind_r (p : Int → Prop) [DecidablePred p] {i : Int} (h : 0 ≤ i) : sFind p i = -9 ∨ (0 ≤ sFind p i ∧ sFind p i < i) := by
  refine it_inv (f := fun n r => if r < 0 ∧ p n then n else r) (a := (-9 : Int)) (fun i r => r = -9 ∨ (0 ≤ r ∧ r < i)) (Or.inl rfl) (fun i r hi ih => ?_) i h
  split <;> omega
theorem sFind_st (p : Int → Prop) [DecidablePred p] {i j : Int} (hi : 0 ≤ i) (h : 0 ≤ sFind p i) (hj : i ≤ j) : sFind p j = sFind p i := by
  obtain ⟨n, rfl⟩ : ∃ n : Nat, j = i + n := ⟨(j - i).toNat, by omega⟩
  clear hj
  induction n with
  | zero => rw [show i + ((0 : Nat) : Int) = i by omega]
  | succ n ih =>
    rw [show i + ((n + 1 : Nat) : Int) = (i + n) + 1 by omega, sFind_s p (by omega), ih, if_neg (by omega)]
/-- all let go at once -/
def sLet (T : Tn) (i : Int) : Tn := it (fun d U => sGo U d 99) T i
theorem sLet_s (T : Tn) {i : Int} (h : 0 ≤ i) : sLet T (i + 1) = sGo (sLet T i) i 99 := it_s _ _ h
theorem sLet_p {T : Tn} (h : IT T) {i : Int} (h0 : 0 ≤ i) : i ≤ T 0 1 → IT (sLet T i) ∧ ∀ a, a ≠ 6 → sLet T i a = T a := by
  refine it_inv (f := fun d U => sGo U d 99) (a := T) (fun i U => i ≤ T 0 1 → IT U ∧ ∀ a, a ≠ 6 → U a = T a) (fun _ => ⟨h, fun _ _ => rfl⟩) (fun i U hi ih hb => ?_) i h0
  obtain ⟨a1, a2⟩ := ih (by omega)
  have e : U 0 1 = T 0 1 := by rw [a2 0 (by decide)]
  exact ⟨sGo_IT a1 _ hi (by omega), fun a ha => by rw [sGo_a _ _ _ ha]; exact a2 a ha⟩
theorem sPurse_r {T : Tn} (h : IT T) (q : Int) {i : Int} (h0 : 0 ≤ i) (h1 : i ≤ T 0 1) : 0 ≤ sPurse T q i ∧ sPurse T q i ≤ 64 := by
  have hD := h.D
  have := sSum_r (f := fun d => if T 6 d = q then sVal T d else 0) (k := T 0 1) (m := 8) (fun j hj hk => by
    have hd := h.d hj hk
    have hv := sVal_r (T := T) (d := j) (by omega)
    show 0 ≤ (if T 6 j = q then sVal T j else 0) ∧ (if T 6 j = q then sVal T j else 0) ≤ 8
    split <;> omega) i h0 h1
  unfold sPurse
  omega
theorem sLost_r {T : Tn} {i : Int} (h0 : 0 ≤ i) : 0 ≤ sLost T i ∧ sLost T i ≤ i := by
  have := sSum_r (f := fun d => if T 6 d = 9 then (1 : Int) else 0) (k := i) (m := 1) (fun j hj hk => by
    show 0 ≤ (if T 6 j = 9 then (1 : Int) else 0) ∧ (if T 6 j = 9 then (1 : Int) else 0) ≤ 1
    split <;> omega) i h0 (Int.le_refl _)
  unfold sLost
  omega
def sWorthN (T : Tn) (i : Int) : Int := sSum (fun d => if T 6 d = 9 then 0 else sVal T d) i
theorem sWorthN_s (T : Tn) {i : Int} (h : 0 ≤ i) : sWorthN T (i + 1) = sWorthN T i + (if T 6 i = 9 then 0 else sVal T i) := sSum_s _ h
/-! refusals and answers -/
def q_letter (c n : Int) : Int := if sOut c 0 255 = 0 then (if n = 64 then -6 else 0) else sOut c 0 255
def q_loft (T : Tn) (z w : Int) : Int := if 0 ≤ z ∧ z < T 0 0 then (if 0 ≤ w ∧ w ≤ 4 then 0 else -2) else -1
def v_loft (T : Tn) (z w : Int) : Int := if w = 0 then T 1 z else if w = 1 then T 2 z else if w = 2 then zbit (T 0 2) z else if w = 3 then sPurse T z (T 0 1) else sOwn T z (T 0 1)
def q_dove (T : Tn) (d w : Int) : Int := if 0 ≤ d ∧ d < T 0 1 then (if 0 ≤ w ∧ w ≤ 6 then 0 else -2) else -1
def v_dove (T : Tn) (d w : Int) : Int := if w = 5 then sVal T d else if w = 6 then sFly T d else T (3 + w.toNat) d
def q_open (T : Tn) (z i : Int) : Int := if 0 ≤ z ∧ z < T 0 0 then (if 0 ≤ i ∧ i < 2 then 0 else -2) else -1
def q_carry (T : Tn) (d z : Int) : Int := if (0 ≤ d ∧ d < T 0 1) ∧ (0 ≤ z ∧ z < T 0 0) then (if T 6 d = 9 then -3 else 0) else -1
def q_clip (T : Tn) (d k : Int) : Int := if 0 ≤ d ∧ d < T 0 1 then sOut k 0 9 else -1
def q_go (T : Tn) (d : Int) : Int := if 0 ≤ d ∧ d < T 0 1 then (if T 6 d = 9 ∨ 0 < T 7 d then -3 else 0) else -1
def q_dusk (T : Tn) : Int := if T 0 4 = 999 then -6 else 0
def q_way (T : Tn) (x y : Int) : Int := if (0 ≤ x ∧ x < T 0 0) ∧ (0 ≤ y ∧ y < T 0 0) then 0 else -1
def q_lo (T : Tn) (z m lo hi : Int) : Int := if 0 ≤ z ∧ z < T 0 0 then sOut m lo hi else -1
def q_lof (T : Tn) (z : Int) : Int := if 0 ≤ z ∧ z < T 0 0 then 0 else -1
def q_dov (T : Tn) (d : Int) : Int := if 0 ≤ d ∧ d < T 0 1 then 0 else -1
def q_row (v n : Int) : Int := if sOut v 0 9 = 0 then (if n = 8 then -6 else 0) else sOut v 0 9
def sPur (T : Tn) (q n : Int) : Int := sPurse (sDusks T n) q (sDusks T n 0 1)
def v_run (T : Tn) (q sum : Int) : Int := sFind (fun n => sPur T q n < sum) 41
def v_homing (T : Tn) (d : Int) : Int := sFind (fun n => sDusks T n 6 d = sDusks T n 4 d) 41
def v_spare (T : Tn) (m : Int) : Int := sFind (fun v => sLost (sDusks (up T 0 3 v) m) (sDusks (up T 0 3 v) m 0 1) = sLost T (T 0 1)) 21
/-- the best of the sets below i: itself, its worth -/
def sBest (f : Int → Int) (i : Int) : Int × Int := it (fun s r => if 0 ≤ r.1 ∧ f s ≤ r.2 then r else (s, f s)) (-9, 0) i
theorem sBest_s (f : Int → Int) {i : Int} (h : 0 ≤ i) : sBest f (i + 1) = if 0 ≤ (sBest f i).1 ∧ f i ≤ (sBest f i).2 then sBest f i else (i, f i) := it_s _ _ h
theorem sBest_r (f : Int → Int) {i k : Int} (h : 0 ≤ i) (hk : i ≤ k) (hf : ∀ j, 0 ≤ j → j < k → 0 ≤ f j ∧ f j ≤ 64) : ((sBest f i).1 = -9 ∧ i = 0 ∨ 0 ≤ (sBest f i).1 ∧ (sBest f i).1 < i) ∧ (0 ≤ (sBest f i).2 ∧ (sBest f i).2 ≤ 64) := by
  refine it_inv (f := fun s r => if 0 ≤ r.1 ∧ f s ≤ r.2 then r else (s, f s)) (a := ((-9 : Int), (0 : Int))) (fun i r => i ≤ k → ((r.1 = -9 ∧ i = 0 ∨ 0 ≤ r.1 ∧ r.1 < i) ∧ (0 ≤ r.2 ∧ r.2 ≤ 64))) (fun _ => ⟨Or.inl ⟨rfl, rfl⟩, by decide⟩) (fun i r hi ih hb => ?_) i h hk
  have h1 := ih (by omega)
  have h2 := hf i hi (by omega)
  split
  · omega
  · show (i = -9 ∧ i + 1 = 0 ∨ 0 ≤ i ∧ i < i + 1) ∧ (0 ≤ f i ∧ f i ≤ 64)
    omega
def sOpenP (T : Tn) (q n s : Int) : Int := sPur (up T 0 2 s) q n
def v_best (T : Tn) (q n : Int) : Int := (sBest (sOpenP T q n) (zp2 (T 0 0))).1
/-- dusks by seeds: the seed, the town -/
def sDraw (T : Tn) (z : Int) : Int := zand z 2147483647 / 256 % zp2 (T 0 0)
def sSeed (T : Tn) (z i : Int) : Int × Tn := it (fun _ r => (r.1 * 1664525 + 1013904223, sDusk (up r.2 0 2 (sDraw r.2 (r.1 * 1664525 + 1013904223))))) (z, T) i
theorem sSeed_s (T : Tn) (z : Int) {i : Int} (h : 0 ≤ i) : sSeed T z (i + 1) = ((sSeed T z i).1 * 1664525 + 1013904223, sDusk (up (sSeed T z i).2 0 2 (sDraw (sSeed T z i).2 ((sSeed T z i).1 * 1664525 + 1013904223)))) := it_s _ _ h
theorem sDraw_r {T : Tn} (h : IT T) (z : Int) : 0 ≤ sDraw T z ∧ sDraw T z < zp2 (T 0 0) := by
  have := h.L
  have := zp2_r (L := T 0 0) (by omega)
  unfold sDraw
  exact ⟨Int.emod_nonneg _ (by omega), Int.emod_lt_of_pos _ (by omega)⟩
theorem sSeed_p {T : Tn} (h : IT T) (z : Int) {i : Int} (h0 : 0 ≤ i) : T 0 4 + i ≤ 1100 → IT (sSeed T z i).2 ∧ (sSeed T z i).2 0 0 = T 0 0 ∧ (sSeed T z i).2 0 4 = T 0 4 + i ∧ T 0 1 ≤ (sSeed T z i).2 0 1 := by
  refine it_inv (f := fun _ r => (r.1 * 1664525 + 1013904223, sDusk (up r.2 0 2 (sDraw r.2 (r.1 * 1664525 + 1013904223))))) (a := (z, T)) (fun i r => T 0 4 + i ≤ 1100 → IT r.2 ∧ r.2 0 0 = T 0 0 ∧ r.2 0 4 = T 0 4 + i ∧ T 0 1 ≤ r.2 0 1) (fun _ => ⟨h, rfl, (Int.add_zero _).symm, Int.le_refl _⟩) (fun i r hi ih hb => ?_) i h0
  obtain ⟨a1, a2, a3, a4⟩ := ih (by omega)
  have b1 := IT_open a1 (sDraw_r a1 (r.1 * 1664525 + 1013904223))
  obtain ⟨c1, c2, c3, -, -, c6, -⟩ := sDusk_p b1 (by show r.2 0 4 < 1100; omega)
  have e1 : up r.2 0 2 (sDraw r.2 (r.1 * 1664525 + 1013904223)) 0 1 = r.2 0 1 := up_z (by decide)
  have e4 : up r.2 0 2 (sDraw r.2 (r.1 * 1664525 + 1013904223)) 0 4 = r.2 0 4 := up_z (by decide)
  have e0 : up r.2 0 2 (sDraw r.2 (r.1 * 1664525 + 1013904223)) 0 0 = r.2 0 0 := up_z (by decide)
  exact ⟨c1, by show sDusk _ 0 0 = _; omega, by show sDusk _ 0 4 = _; omega, by show _ ≤ sDusk _ 0 1; omega⟩
def v_seeds (T : Tn) (n z q : Int) : Int := sPurse (sSeed T z n).2 q ((sSeed T z n).2 0 1)
/-- the row and where they are -/
noncomputable abbrev zc (p : Prop) : Int := @zb p (Classical.propDecidable p)
theorem zc_t {p : Prop} (h : p) : zc p = 1 := @zb_t p (Classical.propDecidable p) h
theorem zc_f {p : Prop} (h : ¬ p) : zc p = 0 := @zb_f p (Classical.propDecidable p) h
def sTold (T : Tn) (f : Int → Int) (n : Int) : Prop := ∀ d, 0 ≤ d → d < n → f d = T 6 d
def sHit (T : Tn) (f : Int → Int) (k : Int) : Prop := k % 10 < T 0 0 ∧ T 6 (k / 10) ≠ 9 ∧ T 6 (k / 10) ≠ k % 10 ∧ sTold (sDusk (up T 6 (k / 10) (k % 10))) f (T 0 1)
noncomputable def sPN (T : Tn) (f : Int → Int) (k : Int) : Int := sSum (fun k => zc (sHit T f k)) k
noncomputable def sPF (T : Tn) (f : Int → Int) (k : Int) : Int := @sFind (sHit T f) (fun k => Classical.propDecidable _) k
def q_paid (T : Tn) (w n : Int) : Int := if 0 ≤ w ∧ w < 2 then (if n = T 0 1 then 0 else -3) else -2
noncomputable def v_paid (T : Tn) (f : Int → Int) (w : Int) : Int := if w = 0 then sPN T f (10 * T 0 1) else sPF T f (10 * T 0 1)
/-- the first that isn't so -/
def v_judge (T : Tn) (f : Int → Int) (n : Int) : Int :=
  if 0 ≤ sFind (fun d => d = T 0 1 ∨ f d ≠ T 6 d) n then sFind (fun d => d = T 0 1 ∨ f d ≠ T 6 d) n else if n < T 0 1 then n else -9
def v_count (R T : Tn) (w : Int) : Int := if 10 < w ∧ w < 17 then R 1 (w - 10) else if w = 0 then T 0 0 else if w = 1 then T 0 1 else if w = 2 then T 0 4 else if w = 3 then sLost T (T 0 1) else if w = 4 then T 0 3 else if w = 5 then T 0 2 else if w = 6 then sWorthN T (T 0 1) else if w = 7 then R 0 3 else if w = 8 then R 0 1 else -9
/-- what the reference's numbers are -/
def IR (R : Tn) : Prop := (R 0 0 = 0 ∨ R 0 0 = 1) ∧ (0 ≤ R 0 1 ∧ R 0 1 ≤ 64) ∧ (0 ≤ R 0 3 ∧ R 0 3 ≤ 8) ∧ (∀ j, 0 ≤ R 6 j ∧ R 6 j ≤ 255) ∧ (∀ j, 0 ≤ R 8 j ∧ R 8 j ≤ 9)
def aLett (G : GT) (b : Nat → Nat) (R T : Tn) (z : Int) : Option Value → List va_W → Prop := fun o g => if 0 ≤ z ∧ z < T 0 0 then o = some (.int (iI (sPurse (sLet T (T 0 1)) z (T 0 1) - sPurse T z (T 0 1)))) ∧ g = wR G b (up1 R 5 (flat T)) T else o = some (.int (iI 1000000001)) ∧ g = wR G b (rfs R (-1)) T
set_option maxRecDepth 100000 in
set_option maxHeartbeats 4000000 in
theorem c_X9_letter (l : Launch) (G : GT) (b : Nat → Nat) (R T : Tn) (c : Int) (hI : IT T) (hR : IR R) (gc : -2147483648 ≤ c ∧ c < 2147483648) : Cn l yX9_letter cX9_letter 3 (Option.some .int) ({ frames := 1, cells := 0, slots := 0, locals := 22 }) G [.ref (b 0), .int (iI c)] (wR G b R T) (jst (some (.int (iI (zans (q_letter c (R 0 1)) (R 0 1 + 1))))) (wR G b (zif (q_letter c (R 0 1)) (up (up R 6 (R 0 1) c) 0 1 (R 0 1 + 1)) (rfs R (q_letter c (R 0 1)))) (zif (q_letter c (R 0 1)) (T) T))) := by
  refine Cn_in RX9 [some (.ref (b 0)), some (.int (iI c)), none] (by decide +kernel) rfl rfl rfl (Nat.le_of_ble_eq_true rfl) (fun K C hQ => ?_)
  obtain ⟨r0, r1, r3, r6, r8⟩ := hR
  have hBB := hI.b
  have hLL := hI.L
  have hDD := hI.D
  refine r_iload_n (pc := 0) C 1 dX9_letter_0 rfl rfl ?_
  refine r_iconst (pc := 1) C dX9_letter_1 ?_
  refine r_sipush (pc := 2) C dX9_letter_2 (by decide) ?_
  refine r_callS (pc := 5) (is := []) C YX9_within dX9_letter_5 tw_782 (c_X9_within l G _ _ _ (by first | assumption | omega | exact zand_rng _ _ | exact zor_rng _ _ | exact zxor_rng _ _ | exact BT.r (IT.b (by assumption)) _ _) (by first | assumption | omega | exact zand_rng _ _ | exact zor_rng _ _ | exact zxor_rng _ _ | exact BT.r (IT.b (by assumption)) _ _) (by first | assumption | omega | exact zand_rng _ _ | exact zor_rng _ _ | exact zxor_rng _ _ | exact BT.r (IT.b (by assumption)) _ _)) rfl (by decide) rfl rfl (Nat.le_of_ble_eq_true rfl) ⟨rfl, rfl, by decide, by decide⟩ (jst_i rfl ?_)
  have hs5 := sOut_r c 0 255 (by decide)
  refine r_istore_n (pc := 8) C 2 dX9_letter_8 rfl (Nat.le_of_ble_eq_true rfl) ?_
  refine r_iload_n (pc := 9) C 2 dX9_letter_9 rfl rfl ?_
  refine r_if_ne (pc := 10) (tgt := 25) C dX9_letter_10 (by decide) (by first | omega | exact zand_rng _ _ | exact zor_rng _ _ | exact zxor_rng _ _ | exact BT.r (IT.b (by assumption)) _ _) (fun c10 => ?_) (fun c10 => ?_)
  · refine r_iload_n (pc := 25) C 2 dX9_letter_25 rfl rfl ?_
    refine r_if_eq (pc := 26) (tgt := 35) C dX9_letter_26 (by decide) (by first | omega | exact zand_rng _ _ | exact zor_rng _ _ | exact zxor_rng _ _ | exact BT.r (IT.b (by assumption)) _ _) (fun c26 => ?_) (fun c26 => ?_)
    · refine r_aload_n (pc := 35) C 0 dX9_letter_35 rfl rfl ?_
      refine r_get (pc := 36) C 0 0 6 dX9_letter_36 in_X9 rfl rfl (ci := 9) rfl (by decide) tw_747 rfl rfl ?_
      refine r_aload_n (pc := 39) C 0 dX9_letter_39 rfl rfl ?_
      refine r_get (pc := 40) C 0 0 8 dX9_letter_40 in_X9 rfl rfl (ci := 9) rfl (by decide) tw_749 rfl rfl ?_
      refine r_iload_n (pc := 43) C 1 dX9_letter_43 rfl rfl ?_
      refine r_iastore (pc := 44) C 6 0 dX9_letter_44 rfl rfl (by decide) (by omega) rfl (R_a6_0 ..) ?_
      refine r_aload_n (pc := 45) C 0 dX9_letter_45 rfl rfl ?_
      refine r_dup (pc := 46) C dX9_letter_46 rfl ?_
      refine r_get (pc := 47) C 0 0 8 dX9_letter_47 in_X9 rfl rfl (ci := 9) rfl (by decide) tw_749 rfl rfl ?_
      refine r_iconst (pc := 50) C dX9_letter_50 ?_
      refine r_iadd (pc := 51) C dX9_letter_51 ?_
      refine r_put (pc := 52) C 0 0 8 dX9_letter_52 in_X9 tyX9_ok nmX9 rfl rfl (ci := 9) rfl (by decide) tw_749 rfl rfl (tyX9_ok 8 (by decide)) rfl rfl (Nat.le_of_ble_eq_true rfl) rfl (R_p0_8 ..) ?_
      refine r_aload_n (pc := 55) C 0 dX9_letter_55 rfl rfl ?_
      refine r_get (pc := 56) C 0 0 8 dX9_letter_56 in_X9 rfl rfl (ci := 9) rfl (by decide) tw_749 rfl rfl ?_
      exact r_iret (pc := 59) C hQ dX9_letter_59 rfl (fin_okR (by unfold q_letter; (repeat (first | rw [if_pos (by omega)] | rw [if_neg (by omega)])); (try first | rfl | assumption | omega)) (by first | rfl | omega) (by rfl))
    · refine r_aload_n (pc := 29) C 0 dX9_letter_29 rfl rfl ?_
      refine r_iload_n (pc := 30) C 2 dX9_letter_30 rfl rfl ?_
      refine r_callV (pc := 31) (is := [0, 1, 2, 3, 4, 5, 6, 7, 8]) C YX9_refuse dX9_letter_31 tw_785 (c_X9_refuse l G _ _ _ _ (by first | assumption | omega | exact zand_rng _ _ | exact zor_rng _ _ | exact zxor_rng _ _ | exact BT.r (IT.b (by assumption)) _ _)) 0 0 rfl rfl (ci := 9) rfl rfl rfl (by decide) rfl rfl (Nat.le_of_ble_eq_true rfl) ⟨rfl, rfl, by decide, by decide⟩ (jst_i (R_uall ..) ?_)
      exact r_iret (pc := 34) C hQ dX9_letter_34 rfl (fin_noR (by unfold q_letter; (repeat (first | rw [if_pos (by omega)] | rw [if_neg (by omega)])); (try first | rfl | assumption | omega)) (by omega) rfl)
  · refine r_aload_n (pc := 13) C 0 dX9_letter_13 rfl rfl ?_
    refine r_get (pc := 14) C 0 0 8 dX9_letter_14 in_X9 rfl rfl (ci := 9) rfl (by decide) tw_749 rfl rfl ?_
    refine r_bipush (pc := 17) C dX9_letter_17 (by decide) ?_
    refine r_icmp_ne (pc := 19) (tgt := 25) C dX9_letter_19 (by decide) (by first | omega | exact zand_rng _ _ | exact zor_rng _ _ | exact zxor_rng _ _ | exact BT.r (IT.b (by assumption)) _ _) (by first | omega | exact zand_rng _ _ | exact zor_rng _ _ | exact zxor_rng _ _ | exact BT.r (IT.b (by assumption)) _ _) (fun c19 => ?_) (fun c19 => ?_)
    · refine r_iload_n (pc := 25) C 2 dX9_letter_25 rfl rfl ?_
      refine r_if_eq (pc := 26) (tgt := 35) C dX9_letter_26 (by decide) (by first | omega | exact zand_rng _ _ | exact zor_rng _ _ | exact zxor_rng _ _ | exact BT.r (IT.b (by assumption)) _ _) (fun c26 => ?_) (fun c26 => ?_)
      · refine r_aload_n (pc := 35) C 0 dX9_letter_35 rfl rfl ?_
        refine r_get (pc := 36) C 0 0 6 dX9_letter_36 in_X9 rfl rfl (ci := 9) rfl (by decide) tw_747 rfl rfl ?_
        refine r_aload_n (pc := 39) C 0 dX9_letter_39 rfl rfl ?_
        refine r_get (pc := 40) C 0 0 8 dX9_letter_40 in_X9 rfl rfl (ci := 9) rfl (by decide) tw_749 rfl rfl ?_
        refine r_iload_n (pc := 43) C 1 dX9_letter_43 rfl rfl ?_
        refine r_iastore (pc := 44) C 6 0 dX9_letter_44 rfl rfl (by decide) (by omega) rfl (R_a6_0 ..) ?_
        refine r_aload_n (pc := 45) C 0 dX9_letter_45 rfl rfl ?_
        refine r_dup (pc := 46) C dX9_letter_46 rfl ?_
        refine r_get (pc := 47) C 0 0 8 dX9_letter_47 in_X9 rfl rfl (ci := 9) rfl (by decide) tw_749 rfl rfl ?_
        refine r_iconst (pc := 50) C dX9_letter_50 ?_
        refine r_iadd (pc := 51) C dX9_letter_51 ?_
        refine r_put (pc := 52) C 0 0 8 dX9_letter_52 in_X9 tyX9_ok nmX9 rfl rfl (ci := 9) rfl (by decide) tw_749 rfl rfl (tyX9_ok 8 (by decide)) rfl rfl (Nat.le_of_ble_eq_true rfl) rfl (R_p0_8 ..) ?_
        refine r_aload_n (pc := 55) C 0 dX9_letter_55 rfl rfl ?_
        refine r_get (pc := 56) C 0 0 8 dX9_letter_56 in_X9 rfl rfl (ci := 9) rfl (by decide) tw_749 rfl rfl ?_
        exact r_iret (pc := 59) C hQ dX9_letter_59 rfl (fin_okR (by unfold q_letter; (repeat (first | rw [if_pos (by omega)] | rw [if_neg (by omega)])); (try first | rfl | assumption | omega)) (by first | rfl | omega) (by rfl))
      · refine r_aload_n (pc := 29) C 0 dX9_letter_29 rfl rfl ?_
        refine r_iload_n (pc := 30) C 2 dX9_letter_30 rfl rfl ?_
        refine r_callV (pc := 31) (is := [0, 1, 2, 3, 4, 5, 6, 7, 8]) C YX9_refuse dX9_letter_31 tw_785 (c_X9_refuse l G _ _ _ _ (by first | assumption | omega | exact zand_rng _ _ | exact zor_rng _ _ | exact zxor_rng _ _ | exact BT.r (IT.b (by assumption)) _ _)) 0 0 rfl rfl (ci := 9) rfl rfl rfl (by decide) rfl rfl (Nat.le_of_ble_eq_true rfl) ⟨rfl, rfl, by decide, by decide⟩ (jst_i (R_uall ..) ?_)
        exact r_iret (pc := 34) C hQ dX9_letter_34 rfl (fin_noR (by unfold q_letter; (repeat (first | rw [if_pos (by omega)] | rw [if_neg (by omega)])); (try first | rfl | assumption | omega)) (by omega) rfl)
    · refine r_bipush (pc := 22) C dX9_letter_22 (by decide) ?_
      refine r_istore_n (pc := 24) C 2 dX9_letter_24 rfl (Nat.le_of_ble_eq_true rfl) ?_
      refine r_iload_n (pc := 25) C 2 dX9_letter_25 rfl rfl ?_
      refine r_if_eq (pc := 26) (tgt := 35) C dX9_letter_26 (by decide) (by first | omega | exact zand_rng _ _ | exact zor_rng _ _ | exact zxor_rng _ _ | exact BT.r (IT.b (by assumption)) _ _) (fun c26 => absurd c26 (by omega)) (fun c26 => ?_)
      refine r_aload_n (pc := 29) C 0 dX9_letter_29 rfl rfl ?_
      refine r_iload_n (pc := 30) C 2 dX9_letter_30 rfl rfl ?_
      refine r_callV (pc := 31) (is := [0, 1, 2, 3, 4, 5, 6, 7, 8]) C YX9_refuse dX9_letter_31 tw_785 (c_X9_refuse l G _ _ _ _ (by first | assumption | omega | exact zand_rng _ _ | exact zor_rng _ _ | exact zxor_rng _ _ | exact BT.r (IT.b (by assumption)) _ _)) 0 0 rfl rfl (ci := 9) rfl rfl rfl (by decide) rfl rfl (Nat.le_of_ble_eq_true rfl) ⟨rfl, rfl, by decide, by decide⟩ (jst_i (R_uall ..) ?_)
      exact r_iret (pc := 34) C hQ dX9_letter_34 rfl (fin_noR (by unfold q_letter; (repeat (first | rw [if_pos (by omega)] | rw [if_neg (by omega)])); (try first | rfl | assumption | omega)) (by omega) rfl)

set_option maxRecDepth 100000 in
set_option maxHeartbeats 4000000 in
theorem c_X9_loft (l : Launch) (G : GT) (b : Nat → Nat) (R T : Tn) (z w : Int) (hI : IT T) (hR : IR R) (gz : -2147483648 ≤ z ∧ z < 2147483648) (gw : -2147483648 ≤ w ∧ w < 2147483648) : Cn l yX9_loft cX9_loft 3 (Option.some .int) ({ frames := 3, cells := 0, slots := 0, locals := 66 }) G [.ref (b 0), .int (iI z), .int (iI w)] (wR G b R T) (jst (some (.int (iI (zans (q_loft T z w) (v_loft T z w))))) (wR G b (zif (q_loft T z w) (R) (rfs R (q_loft T z w))) (zif (q_loft T z w) (T) T))) := by
  refine Cn_in RX9 [some (.ref (b 0)), some (.int (iI z)), some (.int (iI w))] (by decide +kernel) rfl rfl rfl (Nat.le_of_ble_eq_true rfl) (fun K C hQ => ?_)
  obtain ⟨r0, r1, r3, r6, r8⟩ := hR
  have hBB := hI.b
  have hLL := hI.L
  have hDD := hI.D
  refine r_aload_n (pc := 0) C 0 dX9_loft_0 rfl rfl ?_
  refine r_iload_n (pc := 1) C 1 dX9_loft_1 rfl rfl ?_
  refine r_callV (pc := 2) (is := [0, 1, 2, 3, 4, 5, 6, 7, 8]) C YX9_isLoft dX9_loft_2 tw_834 (c_X9_isLoft l G _ _ _ _ (by first | assumption | omega | exact zand_rng _ _ | exact zor_rng _ _ | exact zxor_rng _ _ | exact BT.r (IT.b (by assumption)) _ _) (by first | assumption | omega | exact zand_rng _ _ | exact zor_rng _ _ | exact zxor_rng _ _ | exact BT.r (IT.b (by assumption)) _ _)) 0 0 rfl rfl (ci := 9) rfl rfl rfl (by decide) rfl rfl (Nat.le_of_ble_eq_true rfl) ⟨rfl, rfl, by decide, by decide⟩ (jst_i (R_uall ..) ?_)
  refine r_ifb_ne (pc := 5) (tgt := 14) C dX9_loft_5 (by decide) (fun c5 => ?_) (fun c5 => ?_)
  · refine r_iload_n (pc := 14) C 2 dX9_loft_14 rfl rfl ?_
    by_cases s15_0 : w = 0
    · refine r_tblIn (pc := 15) (tgt := 48) C 0 dX9_loft_15 s15_0 (by decide) (by decide) (by decide) rfl (by decide) ?_
      refine r_aload_n (pc := 48) C 0 dX9_loft_48 rfl rfl ?_
      refine r_get (pc := 49) C 0 0 1 dX9_loft_49 in_X9 rfl rfl (ci := 9) rfl (by decide) tw_742 rfl rfl ?_
      refine r_iconst (pc := 52) C dX9_loft_52 ?_
      refine r_iconst (pc := 53) C dX9_loft_53 ?_
      refine r_iload_n (pc := 54) C 1 dX9_loft_54 rfl rfl ?_
      refine r_imul (pc := 55) C dX9_loft_55 ?_
      refine r_iadd (pc := 56) C dX9_loft_56 ?_
      refine r_iload_n (pc := 57) C 2 dX9_loft_57 rfl rfl ?_
      refine r_iadd (pc := 58) C dX9_loft_58 ?_
      refine r_ialoadE (pc := 59) C 2 0 dX9_loft_59 rfl rfl (by decide) (by omega) (show flat T (5 + 2 * z + w) = v_loft T z w from by first | (rw [s15_0, Int.add_zero, flat_x T (by omega)]; rfl) | (rw [s15_1, flat_y T (by omega)]; rfl)) ?_
      exact r_iret (pc := 60) C hQ dX9_loft_60 rfl (fin_okR (by unfold q_loft; (repeat (first | rw [if_pos (by omega)] | rw [if_neg (by omega)])); (try first | rfl | assumption | omega)) (by unfold v_loft; (repeat (first | rw [if_pos (by omega)] | rw [if_neg (by omega)])); (try first | rfl | (rw [zand_1]; rfl))) (by rfl))
    by_cases s15_1 : w = 1
    · refine r_tblIn (pc := 15) (tgt := 48) C 1 dX9_loft_15 s15_1 (by decide) (by decide) (by decide) rfl (by decide) ?_
      refine r_aload_n (pc := 48) C 0 dX9_loft_48 rfl rfl ?_
      refine r_get (pc := 49) C 0 0 1 dX9_loft_49 in_X9 rfl rfl (ci := 9) rfl (by decide) tw_742 rfl rfl ?_
      refine r_iconst (pc := 52) C dX9_loft_52 ?_
      refine r_iconst (pc := 53) C dX9_loft_53 ?_
      refine r_iload_n (pc := 54) C 1 dX9_loft_54 rfl rfl ?_
      refine r_imul (pc := 55) C dX9_loft_55 ?_
      refine r_iadd (pc := 56) C dX9_loft_56 ?_
      refine r_iload_n (pc := 57) C 2 dX9_loft_57 rfl rfl ?_
      refine r_iadd (pc := 58) C dX9_loft_58 ?_
      refine r_ialoadE (pc := 59) C 2 0 dX9_loft_59 rfl rfl (by decide) (by omega) (show flat T (5 + 2 * z + w) = v_loft T z w from by first | (rw [s15_0, Int.add_zero, flat_x T (by omega)]; rfl) | (rw [s15_1, flat_y T (by omega)]; rfl)) ?_
      exact r_iret (pc := 60) C hQ dX9_loft_60 rfl (fin_okR (by unfold q_loft; (repeat (first | rw [if_pos (by omega)] | rw [if_neg (by omega)])); (try first | rfl | assumption | omega)) (by unfold v_loft; (repeat (first | rw [if_pos (by omega)] | rw [if_neg (by omega)])); (try first | rfl | (rw [zand_1]; rfl))) (by rfl))
    by_cases s15_2 : w = 2
    · refine r_tblIn (pc := 15) (tgt := 61) C 2 dX9_loft_15 s15_2 (by decide) (by decide) (by decide) rfl (by decide) ?_
      refine r_aload_n (pc := 61) C 0 dX9_loft_61 rfl rfl ?_
      refine r_get (pc := 62) C 0 0 1 dX9_loft_62 in_X9 rfl rfl (ci := 9) rfl (by decide) tw_742 rfl rfl ?_
      refine r_iconst (pc := 65) C dX9_loft_65 ?_
      refine r_ialoadE (pc := 66) C 2 0 dX9_loft_66 rfl rfl (by decide) (by omega) (flat_0 _ (by decide)) ?_
      refine r_iload_n (pc := 67) C 1 dX9_loft_67 rfl rfl ?_
      refine r_ishr (pc := 68) C dX9_loft_68 (by first | omega | exact zand_rng _ _ | exact zor_rng _ _ | exact zxor_rng _ _ | exact BT.r (IT.b (by assumption)) _ _) (by omega) ?_
      refine r_iconst (pc := 69) C dX9_loft_69 ?_
      refine r_iand (pc := 70) C dX9_loft_70 ?_
      exact r_iret (pc := 71) C hQ dX9_loft_71 rfl (fin_okR (by unfold q_loft; (repeat (first | rw [if_pos (by omega)] | rw [if_neg (by omega)])); (try first | rfl | assumption | omega)) (by unfold v_loft; (repeat (first | rw [if_pos (by omega)] | rw [if_neg (by omega)])); (try first | rfl | (rw [zand_1]; rfl))) (by rfl))
    by_cases s15_3 : w = 3
    · refine r_tblIn (pc := 15) (tgt := 72) C 3 dX9_loft_15 s15_3 (by decide) (by decide) (by decide) rfl (by decide) ?_
      refine r_aload_n (pc := 72) C 0 dX9_loft_72 rfl rfl ?_
      refine r_iload_n (pc := 73) C 1 dX9_loft_73 rfl rfl ?_
      refine r_callV (pc := 74) (is := [0, 1, 2, 3, 4, 5, 6, 7, 8]) C YX9_purseOf dX9_loft_74 tw_838 (c_X9_purseOf l G _ _ _ _ (by first | assumption | omega | exact zand_rng _ _ | exact zor_rng _ _ | exact zxor_rng _ _ | exact BT.r (IT.b (by assumption)) _ _) (by first | assumption | omega | exact zand_rng _ _ | exact zor_rng _ _ | exact zxor_rng _ _ | exact BT.r (IT.b (by assumption)) _ _)) 0 0 rfl rfl (ci := 9) rfl rfl rfl (by decide) rfl rfl (Nat.le_of_ble_eq_true rfl) ⟨rfl, rfl, by decide, by decide⟩ (jst_i (R_uall ..) ?_)
      exact r_iret (pc := 77) C hQ dX9_loft_77 rfl (fin_okR (by unfold q_loft; (repeat (first | rw [if_pos (by omega)] | rw [if_neg (by omega)])); (try first | rfl | assumption | omega)) (by unfold v_loft; (repeat (first | rw [if_pos (by omega)] | rw [if_neg (by omega)])); (try first | rfl | (rw [zand_1]; rfl))) (by rfl))
    by_cases s15_4 : w = 4
    · refine r_tblIn (pc := 15) (tgt := 78) C 4 dX9_loft_15 s15_4 (by decide) (by decide) (by decide) rfl (by decide) ?_
      refine r_aload_n (pc := 78) C 0 dX9_loft_78 rfl rfl ?_
      refine r_iload_n (pc := 79) C 1 dX9_loft_79 rfl rfl ?_
      refine r_callV (pc := 80) (is := [0, 1, 2, 3, 4, 5, 6, 7, 8]) C YX9_ownOf dX9_loft_80 tw_850 (c_X9_ownOf l G _ _ _ _ (by first | assumption | omega | exact zand_rng _ _ | exact zor_rng _ _ | exact zxor_rng _ _ | exact BT.r (IT.b (by assumption)) _ _) (by first | assumption | omega | exact zand_rng _ _ | exact zor_rng _ _ | exact zxor_rng _ _ | exact BT.r (IT.b (by assumption)) _ _)) 0 0 rfl rfl (ci := 9) rfl rfl rfl (by decide) rfl rfl (Nat.le_of_ble_eq_true rfl) ⟨rfl, rfl, by decide, by decide⟩ (jst_i (R_uall ..) ?_)
      exact r_iret (pc := 83) C hQ dX9_loft_83 rfl (fin_okR (by unfold q_loft; (repeat (first | rw [if_pos (by omega)] | rw [if_neg (by omega)])); (try first | rfl | assumption | omega)) (by unfold v_loft; (repeat (first | rw [if_pos (by omega)] | rw [if_neg (by omega)])); (try first | rfl | (rw [zand_1]; rfl))) (by rfl))
    refine r_tblOut (pc := 15) (tgt := 84) C dX9_loft_15 gw (by omega) (by decide) ?_
    refine r_aload_n (pc := 84) C 0 dX9_loft_84 rfl rfl ?_
    refine r_bipush (pc := 85) C dX9_loft_85 (by decide) ?_
    refine r_callV (pc := 87) (is := [0, 1, 2, 3, 4, 5, 6, 7, 8]) C YX9_refuse dX9_loft_87 tw_785 (c_X9_refuse l G _ _ _ _ (by first | assumption | omega | exact zand_rng _ _ | exact zor_rng _ _ | exact zxor_rng _ _ | exact BT.r (IT.b (by assumption)) _ _)) 0 0 rfl rfl (ci := 9) rfl rfl rfl (by decide) rfl rfl (Nat.le_of_ble_eq_true rfl) ⟨rfl, rfl, by decide, by decide⟩ (jst_i (R_uall ..) ?_)
    exact r_iret (pc := 90) C hQ dX9_loft_90 rfl (fin_noR (by unfold q_loft; (repeat (first | rw [if_pos (by omega)] | rw [if_neg (by omega)])); (try first | rfl | assumption | omega)) (by omega) rfl)
  · refine r_aload_n (pc := 8) C 0 dX9_loft_8 rfl rfl ?_
    refine r_iconst (pc := 9) C dX9_loft_9 ?_
    refine r_callV (pc := 10) (is := [0, 1, 2, 3, 4, 5, 6, 7, 8]) C YX9_refuse dX9_loft_10 tw_785 (c_X9_refuse l G _ _ _ _ (by first | assumption | omega | exact zand_rng _ _ | exact zor_rng _ _ | exact zxor_rng _ _ | exact BT.r (IT.b (by assumption)) _ _)) 0 0 rfl rfl (ci := 9) rfl rfl rfl (by decide) rfl rfl (Nat.le_of_ble_eq_true rfl) ⟨rfl, rfl, by decide, by decide⟩ (jst_i (R_uall ..) ?_)
    exact r_iret (pc := 13) C hQ dX9_loft_13 rfl (fin_noR (by unfold q_loft; (repeat (first | rw [if_pos (by omega)] | rw [if_neg (by omega)])); (try first | rfl | assumption | omega)) (by omega) rfl)

set_option maxRecDepth 100000 in
set_option maxHeartbeats 4000000 in
theorem c_X9_dove (l : Launch) (G : GT) (b : Nat → Nat) (R T : Tn) (d w : Int) (hI : IT T) (hR : IR R) (gd : -2147483648 ≤ d ∧ d < 2147483648) (gw : -2147483648 ≤ w ∧ w < 2147483648) : Cn l yX9_dove cX9_dove 3 (Option.some .int) ({ frames := 4, cells := 0, slots := 0, locals := 89 }) G [.ref (b 0), .int (iI d), .int (iI w)] (wR G b R T) (jst (some (.int (iI (zans (q_dove T d w) (v_dove T d w))))) (wR G b (zif (q_dove T d w) (R) (rfs R (q_dove T d w))) (zif (q_dove T d w) (T) T))) := by
  refine Cn_in RX9 [some (.ref (b 0)), some (.int (iI d)), some (.int (iI w))] (by decide +kernel) rfl rfl rfl (Nat.le_of_ble_eq_true rfl) (fun K C hQ => ?_)
  obtain ⟨r0, r1, r3, r6, r8⟩ := hR
  have hBB := hI.b
  have hLL := hI.L
  have hDD := hI.D
  refine r_aload_n (pc := 0) C 0 dX9_dove_0 rfl rfl ?_
  refine r_iload_n (pc := 1) C 1 dX9_dove_1 rfl rfl ?_
  refine r_callV (pc := 2) (is := [0, 1, 2, 3, 4, 5, 6, 7, 8]) C YX9_isDove dX9_dove_2 tw_862 (c_X9_isDove l G _ _ _ _ (by first | assumption | omega | exact zand_rng _ _ | exact zor_rng _ _ | exact zxor_rng _ _ | exact BT.r (IT.b (by assumption)) _ _) (by first | assumption | omega | exact zand_rng _ _ | exact zor_rng _ _ | exact zxor_rng _ _ | exact BT.r (IT.b (by assumption)) _ _)) 0 0 rfl rfl (ci := 9) rfl rfl rfl (by decide) rfl rfl (Nat.le_of_ble_eq_true rfl) ⟨rfl, rfl, by decide, by decide⟩ (jst_i (R_uall ..) ?_)
  refine r_ifb_ne (pc := 5) (tgt := 14) C dX9_dove_5 (by decide) (fun c5 => ?_) (fun c5 => ?_)
  · refine r_iload_n (pc := 14) C 2 dX9_dove_14 rfl rfl ?_
    by_cases s15_0 : w = 0
    · refine r_tblIn (pc := 15) (tgt := 56) C 0 dX9_dove_15 s15_0 (by decide) (by decide) (by decide) rfl (by decide) ?_
      refine r_aload_n (pc := 56) C 0 dX9_dove_56 rfl rfl ?_
      refine r_iload_n (pc := 57) C 1 dX9_dove_57 rfl rfl ?_
      refine r_iload_n (pc := 58) C 2 dX9_dove_58 rfl rfl ?_
      refine r_callV (pc := 59) (is := [0, 1, 2, 3, 4, 5, 6, 7, 8]) C YX9_get dX9_dove_59 tw_842 (c_X9_getk l G _ _ _ _ _ (by first | assumption | omega | exact zand_rng _ _ | exact zor_rng _ _ | exact zxor_rng _ _ | exact BT.r (IT.b (by assumption)) _ _) (by first | assumption | omega | exact zand_rng _ _ | exact zor_rng _ _ | exact zxor_rng _ _ | exact BT.r (IT.b (by assumption)) _ _)) 0 0 rfl rfl (ci := 9) rfl rfl rfl (by decide) rfl rfl (Nat.le_of_ble_eq_true rfl) ⟨rfl, rfl, by decide, by decide⟩ (jst_i (R_uall ..) ?_)
      exact r_iret (pc := 62) C hQ dX9_dove_62 rfl (fin_okR (by unfold q_dove; (repeat (first | rw [if_pos (by omega)] | rw [if_neg (by omega)])); (try first | rfl | assumption | omega)) (by unfold v_dove; (repeat (first | rw [if_pos (by omega)] | rw [if_neg (by omega)])); (try rfl)) (by rfl))
    by_cases s15_1 : w = 1
    · refine r_tblIn (pc := 15) (tgt := 56) C 1 dX9_dove_15 s15_1 (by decide) (by decide) (by decide) rfl (by decide) ?_
      refine r_aload_n (pc := 56) C 0 dX9_dove_56 rfl rfl ?_
      refine r_iload_n (pc := 57) C 1 dX9_dove_57 rfl rfl ?_
      refine r_iload_n (pc := 58) C 2 dX9_dove_58 rfl rfl ?_
      refine r_callV (pc := 59) (is := [0, 1, 2, 3, 4, 5, 6, 7, 8]) C YX9_get dX9_dove_59 tw_842 (c_X9_getk l G _ _ _ _ _ (by first | assumption | omega | exact zand_rng _ _ | exact zor_rng _ _ | exact zxor_rng _ _ | exact BT.r (IT.b (by assumption)) _ _) (by first | assumption | omega | exact zand_rng _ _ | exact zor_rng _ _ | exact zxor_rng _ _ | exact BT.r (IT.b (by assumption)) _ _)) 0 0 rfl rfl (ci := 9) rfl rfl rfl (by decide) rfl rfl (Nat.le_of_ble_eq_true rfl) ⟨rfl, rfl, by decide, by decide⟩ (jst_i (R_uall ..) ?_)
      exact r_iret (pc := 62) C hQ dX9_dove_62 rfl (fin_okR (by unfold q_dove; (repeat (first | rw [if_pos (by omega)] | rw [if_neg (by omega)])); (try first | rfl | assumption | omega)) (by unfold v_dove; (repeat (first | rw [if_pos (by omega)] | rw [if_neg (by omega)])); (try rfl)) (by rfl))
    by_cases s15_2 : w = 2
    · refine r_tblIn (pc := 15) (tgt := 56) C 2 dX9_dove_15 s15_2 (by decide) (by decide) (by decide) rfl (by decide) ?_
      refine r_aload_n (pc := 56) C 0 dX9_dove_56 rfl rfl ?_
      refine r_iload_n (pc := 57) C 1 dX9_dove_57 rfl rfl ?_
      refine r_iload_n (pc := 58) C 2 dX9_dove_58 rfl rfl ?_
      refine r_callV (pc := 59) (is := [0, 1, 2, 3, 4, 5, 6, 7, 8]) C YX9_get dX9_dove_59 tw_842 (c_X9_getk l G _ _ _ _ _ (by first | assumption | omega | exact zand_rng _ _ | exact zor_rng _ _ | exact zxor_rng _ _ | exact BT.r (IT.b (by assumption)) _ _) (by first | assumption | omega | exact zand_rng _ _ | exact zor_rng _ _ | exact zxor_rng _ _ | exact BT.r (IT.b (by assumption)) _ _)) 0 0 rfl rfl (ci := 9) rfl rfl rfl (by decide) rfl rfl (Nat.le_of_ble_eq_true rfl) ⟨rfl, rfl, by decide, by decide⟩ (jst_i (R_uall ..) ?_)
      exact r_iret (pc := 62) C hQ dX9_dove_62 rfl (fin_okR (by unfold q_dove; (repeat (first | rw [if_pos (by omega)] | rw [if_neg (by omega)])); (try first | rfl | assumption | omega)) (by unfold v_dove; (repeat (first | rw [if_pos (by omega)] | rw [if_neg (by omega)])); (try rfl)) (by rfl))
    by_cases s15_3 : w = 3
    · refine r_tblIn (pc := 15) (tgt := 56) C 3 dX9_dove_15 s15_3 (by decide) (by decide) (by decide) rfl (by decide) ?_
      refine r_aload_n (pc := 56) C 0 dX9_dove_56 rfl rfl ?_
      refine r_iload_n (pc := 57) C 1 dX9_dove_57 rfl rfl ?_
      refine r_iload_n (pc := 58) C 2 dX9_dove_58 rfl rfl ?_
      refine r_callV (pc := 59) (is := [0, 1, 2, 3, 4, 5, 6, 7, 8]) C YX9_get dX9_dove_59 tw_842 (c_X9_getk l G _ _ _ _ _ (by first | assumption | omega | exact zand_rng _ _ | exact zor_rng _ _ | exact zxor_rng _ _ | exact BT.r (IT.b (by assumption)) _ _) (by first | assumption | omega | exact zand_rng _ _ | exact zor_rng _ _ | exact zxor_rng _ _ | exact BT.r (IT.b (by assumption)) _ _)) 0 0 rfl rfl (ci := 9) rfl rfl rfl (by decide) rfl rfl (Nat.le_of_ble_eq_true rfl) ⟨rfl, rfl, by decide, by decide⟩ (jst_i (R_uall ..) ?_)
      exact r_iret (pc := 62) C hQ dX9_dove_62 rfl (fin_okR (by unfold q_dove; (repeat (first | rw [if_pos (by omega)] | rw [if_neg (by omega)])); (try first | rfl | assumption | omega)) (by unfold v_dove; (repeat (first | rw [if_pos (by omega)] | rw [if_neg (by omega)])); (try rfl)) (by rfl))
    by_cases s15_4 : w = 4
    · refine r_tblIn (pc := 15) (tgt := 56) C 4 dX9_dove_15 s15_4 (by decide) (by decide) (by decide) rfl (by decide) ?_
      refine r_aload_n (pc := 56) C 0 dX9_dove_56 rfl rfl ?_
      refine r_iload_n (pc := 57) C 1 dX9_dove_57 rfl rfl ?_
      refine r_iload_n (pc := 58) C 2 dX9_dove_58 rfl rfl ?_
      refine r_callV (pc := 59) (is := [0, 1, 2, 3, 4, 5, 6, 7, 8]) C YX9_get dX9_dove_59 tw_842 (c_X9_getk l G _ _ _ _ _ (by first | assumption | omega | exact zand_rng _ _ | exact zor_rng _ _ | exact zxor_rng _ _ | exact BT.r (IT.b (by assumption)) _ _) (by first | assumption | omega | exact zand_rng _ _ | exact zor_rng _ _ | exact zxor_rng _ _ | exact BT.r (IT.b (by assumption)) _ _)) 0 0 rfl rfl (ci := 9) rfl rfl rfl (by decide) rfl rfl (Nat.le_of_ble_eq_true rfl) ⟨rfl, rfl, by decide, by decide⟩ (jst_i (R_uall ..) ?_)
      exact r_iret (pc := 62) C hQ dX9_dove_62 rfl (fin_okR (by unfold q_dove; (repeat (first | rw [if_pos (by omega)] | rw [if_neg (by omega)])); (try first | rfl | assumption | omega)) (by unfold v_dove; (repeat (first | rw [if_pos (by omega)] | rw [if_neg (by omega)])); (try rfl)) (by rfl))
    by_cases s15_5 : w = 5
    · refine r_tblIn (pc := 15) (tgt := 63) C 5 dX9_dove_15 s15_5 (by decide) (by decide) (by decide) rfl (by decide) ?_
      refine r_aload_n (pc := 63) C 0 dX9_dove_63 rfl rfl ?_
      refine r_iload_n (pc := 64) C 1 dX9_dove_64 rfl rfl ?_
      refine r_callV (pc := 65) (is := [0, 1, 2, 3, 4, 5, 6, 7, 8]) C YX9_valueOf dX9_dove_65 tw_846 (c_X9_valueOf l G _ _ _ _ (by first | assumption | omega | exact zand_rng _ _ | exact zor_rng _ _ | exact zxor_rng _ _ | exact BT.r (IT.b (by assumption)) _ _) (by first | assumption | omega | exact zand_rng _ _ | exact zor_rng _ _ | exact zxor_rng _ _ | exact BT.r (IT.b (by assumption)) _ _)) 0 0 rfl rfl (ci := 9) rfl rfl rfl (by decide) rfl rfl (Nat.le_of_ble_eq_true rfl) ⟨rfl, rfl, by decide, by decide⟩ (jst_i (R_uall ..) ?_)
      exact r_iret (pc := 68) C hQ dX9_dove_68 rfl (fin_okR (by unfold q_dove; (repeat (first | rw [if_pos (by omega)] | rw [if_neg (by omega)])); (try first | rfl | assumption | omega)) (by unfold v_dove; (repeat (first | rw [if_pos (by omega)] | rw [if_neg (by omega)])); (try rfl)) (by rfl))
    by_cases s15_6 : w = 6
    · refine r_tblIn (pc := 15) (tgt := 69) C 6 dX9_dove_15 s15_6 (by decide) (by decide) (by decide) rfl (by decide) ?_
      refine r_aload_n (pc := 69) C 0 dX9_dove_69 rfl rfl ?_
      refine r_iload_n (pc := 70) C 1 dX9_dove_70 rfl rfl ?_
      refine r_callV (pc := 71) (is := [0, 1, 2, 3, 4, 5, 6, 7, 8]) C YX9_flies dX9_dove_71 tw_866 (c_X9_flies l G _ _ _ _ (by first | assumption | omega | exact zand_rng _ _ | exact zor_rng _ _ | exact zxor_rng _ _ | exact BT.r (IT.b (by assumption)) _ _) (by first | assumption | omega | exact zand_rng _ _ | exact zor_rng _ _ | exact zxor_rng _ _ | exact BT.r (IT.b (by assumption)) _ _)) 0 0 rfl rfl (ci := 9) rfl rfl rfl (by decide) rfl rfl (Nat.le_of_ble_eq_true rfl) ⟨rfl, rfl, by decide, by decide⟩ (jst_i (R_uall ..) ?_)
      exact r_iret (pc := 74) C hQ dX9_dove_74 rfl (fin_okR (by unfold q_dove; (repeat (first | rw [if_pos (by omega)] | rw [if_neg (by omega)])); (try first | rfl | assumption | omega)) (by unfold v_dove; (repeat (first | rw [if_pos (by omega)] | rw [if_neg (by omega)])); (try rfl)) (by rfl))
    refine r_tblOut (pc := 15) (tgt := 75) C dX9_dove_15 gw (by omega) (by decide) ?_
    refine r_aload_n (pc := 75) C 0 dX9_dove_75 rfl rfl ?_
    refine r_bipush (pc := 76) C dX9_dove_76 (by decide) ?_
    refine r_callV (pc := 78) (is := [0, 1, 2, 3, 4, 5, 6, 7, 8]) C YX9_refuse dX9_dove_78 tw_785 (c_X9_refuse l G _ _ _ _ (by first | assumption | omega | exact zand_rng _ _ | exact zor_rng _ _ | exact zxor_rng _ _ | exact BT.r (IT.b (by assumption)) _ _)) 0 0 rfl rfl (ci := 9) rfl rfl rfl (by decide) rfl rfl (Nat.le_of_ble_eq_true rfl) ⟨rfl, rfl, by decide, by decide⟩ (jst_i (R_uall ..) ?_)
    exact r_iret (pc := 81) C hQ dX9_dove_81 rfl (fin_noR (by unfold q_dove; (repeat (first | rw [if_pos (by omega)] | rw [if_neg (by omega)])); (try first | rfl | assumption | omega)) (by omega) rfl)
  · refine r_aload_n (pc := 8) C 0 dX9_dove_8 rfl rfl ?_
    refine r_iconst (pc := 9) C dX9_dove_9 ?_
    refine r_callV (pc := 10) (is := [0, 1, 2, 3, 4, 5, 6, 7, 8]) C YX9_refuse dX9_dove_10 tw_785 (c_X9_refuse l G _ _ _ _ (by first | assumption | omega | exact zand_rng _ _ | exact zor_rng _ _ | exact zxor_rng _ _ | exact BT.r (IT.b (by assumption)) _ _)) 0 0 rfl rfl (ci := 9) rfl rfl rfl (by decide) rfl rfl (Nat.le_of_ble_eq_true rfl) ⟨rfl, rfl, by decide, by decide⟩ (jst_i (R_uall ..) ?_)
    exact r_iret (pc := 13) C hQ dX9_dove_13 rfl (fin_noR (by unfold q_dove; (repeat (first | rw [if_pos (by omega)] | rw [if_neg (by omega)])); (try first | rfl | assumption | omega)) (by omega) rfl)

set_option maxRecDepth 100000 in
set_option maxHeartbeats 4000000 in
theorem c_X9_open (l : Launch) (G : GT) (b : Nat → Nat) (R T : Tn) (z i : Int) (hI : IT T) (hR : IR R) (gz : -2147483648 ≤ z ∧ z < 2147483648) (gi : -2147483648 ≤ i ∧ i < 2147483648) : Cn l yX9_open cX9_open 5 (Option.some .int) ({ frames := 2, cells := 0, slots := 0, locals := 42 }) G [.ref (b 0), .int (iI z), .int (iI i)] (wR G b R T) (jst (some (.int (iI (zans (q_open T z i) (zbit (T 0 2) z))))) (wR G b (zif (q_open T z i) (R) (rfs R (q_open T z i))) (zif (q_open T z i) (up T 0 2 (sSet (T 0 2) z i)) T))) := by
  refine Cn_in RX9 [some (.ref (b 0)), some (.int (iI z)), some (.int (iI i)), none, none] (by decide +kernel) rfl rfl rfl (Nat.le_of_ble_eq_true rfl) (fun K C hQ => ?_)
  obtain ⟨r0, r1, r3, r6, r8⟩ := hR
  have hBB := hI.b
  have hLL := hI.L
  have hDD := hI.D
  have hoo := hI.o
  have hz6 := zp2_le6 hLL
  refine r_aload_n (pc := 0) C 0 dX9_open_0 rfl rfl ?_
  refine r_iload_n (pc := 1) C 1 dX9_open_1 rfl rfl ?_
  refine r_callV (pc := 2) (is := [0, 1, 2, 3, 4, 5, 6, 7, 8]) C YX9_isLoft dX9_open_2 tw_834 (c_X9_isLoft l G _ _ _ _ (by first | assumption | omega | exact zand_rng _ _ | exact zor_rng _ _ | exact zxor_rng _ _ | exact BT.r (IT.b (by assumption)) _ _) (by first | assumption | omega | exact zand_rng _ _ | exact zor_rng _ _ | exact zxor_rng _ _ | exact BT.r (IT.b (by assumption)) _ _)) 0 0 rfl rfl (ci := 9) rfl rfl rfl (by decide) rfl rfl (Nat.le_of_ble_eq_true rfl) ⟨rfl, rfl, by decide, by decide⟩ (jst_i (R_uall ..) ?_)
  refine r_ifb_ne (pc := 5) (tgt := 12) C dX9_open_5 (by decide) (fun c5 => ?_) (fun c5 => ?_)
  · refine r_iload_n (pc := 12) C 2 dX9_open_12 rfl rfl ?_
    refine r_iconst (pc := 13) C dX9_open_13 ?_
    refine r_callS (pc := 14) (is := []) C YX9_isIn dX9_open_14 tw_809 (c_X9_isIn l G _ _ (by first | assumption | omega | exact zand_rng _ _ | exact zor_rng _ _ | exact zxor_rng _ _ | exact BT.r (IT.b (by assumption)) _ _) (by first | assumption | omega | exact zand_rng _ _ | exact zor_rng _ _ | exact zxor_rng _ _ | exact BT.r (IT.b (by assumption)) _ _)) rfl (by decide) rfl rfl (Nat.le_of_ble_eq_true rfl) ⟨rfl, rfl, by decide, by decide⟩ (jst_i rfl ?_)
    refine r_ifb_eq (pc := 17) (tgt := 24) C dX9_open_17 (by decide) (fun c17 => ?_) (fun c17 => ?_)
    · refine r_bipush (pc := 24) C dX9_open_24 (by decide) ?_
      refine r_istore_n (pc := 26) C 3 dX9_open_26 rfl (Nat.le_of_ble_eq_true rfl) ?_
      refine r_iload_n (pc := 27) C 3 dX9_open_27 rfl rfl ?_
      refine r_if_eq (pc := 28) (tgt := 37) C dX9_open_28 (by decide) (by first | omega | exact zand_rng _ _ | exact zor_rng _ _ | exact zxor_rng _ _ | exact BT.r (IT.b (by assumption)) _ _) (fun c28 => absurd c28 (by omega)) (fun c28 => ?_)
      refine r_aload_n (pc := 31) C 0 dX9_open_31 rfl rfl ?_
      refine r_iload_n (pc := 32) C 3 dX9_open_32 rfl rfl ?_
      refine r_callV (pc := 33) (is := [0, 1, 2, 3, 4, 5, 6, 7, 8]) C YX9_refuse dX9_open_33 tw_785 (c_X9_refuse l G _ _ _ _ (by first | assumption | omega | exact zand_rng _ _ | exact zor_rng _ _ | exact zxor_rng _ _ | exact BT.r (IT.b (by assumption)) _ _)) 0 0 rfl rfl (ci := 9) rfl rfl rfl (by decide) rfl rfl (Nat.le_of_ble_eq_true rfl) ⟨rfl, rfl, by decide, by decide⟩ (jst_i (R_uall ..) ?_)
      exact r_iret (pc := 36) C hQ dX9_open_36 rfl (fin_noR (by unfold q_open; (repeat (first | rw [if_pos (by omega)] | rw [if_neg (by omega)])); (try first | rfl | assumption | omega)) (by omega) rfl)
    · refine r_iconst (pc := 20) C dX9_open_20 ?_
      refine r_goto (pc := 21) (tgt := 26) C dX9_open_21 (by decide) ?_
      refine r_istore_n (pc := 26) C 3 dX9_open_26 rfl (Nat.le_of_ble_eq_true rfl) ?_
      refine r_iload_n (pc := 27) C 3 dX9_open_27 rfl rfl ?_
      refine r_if_eq (pc := 28) (tgt := 37) C dX9_open_28 (by decide) (by first | omega | exact zand_rng _ _ | exact zor_rng _ _ | exact zxor_rng _ _ | exact BT.r (IT.b (by assumption)) _ _) (fun c28 => ?_) (fun c28 => absurd c28 (by omega))
      refine r_aload_n (pc := 37) C 0 dX9_open_37 rfl rfl ?_
      refine r_get (pc := 38) C 0 0 1 dX9_open_38 in_X9 rfl rfl (ci := 9) rfl (by decide) tw_742 rfl rfl ?_
      refine r_iconst (pc := 41) C dX9_open_41 ?_
      refine r_ialoadE (pc := 42) C 2 0 dX9_open_42 rfl rfl (by decide) (by omega) (flat_0 _ (by decide)) ?_
      refine r_iload_n (pc := 43) C 1 dX9_open_43 rfl rfl ?_
      refine r_ishr (pc := 44) C dX9_open_44 (by first | omega | exact zand_rng _ _ | exact zor_rng _ _ | exact zxor_rng _ _ | exact BT.r (IT.b (by assumption)) _ _) (by omega) ?_
      refine r_iconst (pc := 45) C dX9_open_45 ?_
      refine r_iand (pc := 46) C dX9_open_46 ?_
      refine r_istore (pc := 47) C dX9_open_47 (Nat.le_of_ble_eq_true rfl) ?_
      refine r_aload_n (pc := 49) C 0 dX9_open_49 rfl rfl ?_
      refine r_get (pc := 50) C 0 0 1 dX9_open_50 in_X9 rfl rfl (ci := 9) rfl (by decide) tw_742 rfl rfl ?_
      refine r_iconst (pc := 53) C dX9_open_53 ?_
      refine r_iload_n (pc := 54) C 2 dX9_open_54 rfl rfl ?_
      refine r_iconst (pc := 55) C dX9_open_55 ?_
      refine r_icmp_ne (pc := 56) (tgt := 72) C dX9_open_56 (by decide) (by first | omega | exact zand_rng _ _ | exact zor_rng _ _ | exact zxor_rng _ _ | exact BT.r (IT.b (by assumption)) _ _) (by first | omega | exact zand_rng _ _ | exact zor_rng _ _ | exact zxor_rng _ _ | exact BT.r (IT.b (by assumption)) _ _) (fun c56 => ?_) (fun c56 => ?_)
      · refine r_aload_n (pc := 72) C 0 dX9_open_72 rfl rfl ?_
        refine r_get (pc := 73) C 0 0 1 dX9_open_73 in_X9 rfl rfl (ci := 9) rfl (by decide) tw_742 rfl rfl ?_
        refine r_iconst (pc := 76) C dX9_open_76 ?_
        refine r_ialoadE (pc := 77) C 2 0 dX9_open_77 rfl rfl (by decide) (by omega) (flat_0 _ (by decide)) ?_
        refine r_iconst (pc := 78) C dX9_open_78 ?_
        refine r_iload_n (pc := 79) C 1 dX9_open_79 rfl rfl ?_
        refine r_ishl (pc := 80) C dX9_open_80 (by omega) ?_
        refine r_iconst (pc := 81) C dX9_open_81 ?_
        refine r_ixor (pc := 82) C dX9_open_82 ?_
        refine r_iand (pc := 83) C dX9_open_83 ?_
        refine r_iastore (pc := 84) C 2 0 dX9_open_84 rfl rfl (by decide) (by omega) rfl (R_s0 _ _ _ _ (by decide)) ?_
        refine r_iload (pc := 85) C dX9_open_85 rfl ?_
        exact r_iret (pc := 87) C hQ dX9_open_87 rfl (fin_okR (by unfold q_open; (repeat (first | rw [if_pos (by omega)] | rw [if_neg (by omega)])); (try first | rfl | assumption | omega)) (by rw [zand_1]; rfl) (by first | (rw [sSet_or (by omega) (by omega)]; (try rw [show i = 1 by omega])) | (rw [sSet_an (by omega) (by omega), show i = 0 by omega])))
      · refine r_aload_n (pc := 59) C 0 dX9_open_59 rfl rfl ?_
        refine r_get (pc := 60) C 0 0 1 dX9_open_60 in_X9 rfl rfl (ci := 9) rfl (by decide) tw_742 rfl rfl ?_
        refine r_iconst (pc := 63) C dX9_open_63 ?_
        refine r_ialoadE (pc := 64) C 2 0 dX9_open_64 rfl rfl (by decide) (by omega) (flat_0 _ (by decide)) ?_
        refine r_iconst (pc := 65) C dX9_open_65 ?_
        refine r_iload_n (pc := 66) C 1 dX9_open_66 rfl rfl ?_
        refine r_ishl (pc := 67) C dX9_open_67 (by omega) ?_
        refine r_ior (pc := 68) C dX9_open_68 ?_
        refine r_goto (pc := 69) (tgt := 84) C dX9_open_69 (by decide) ?_
        refine r_iastore (pc := 84) C 2 0 dX9_open_84 rfl rfl (by decide) (by omega) rfl (R_s0 _ _ _ _ (by decide)) ?_
        refine r_iload (pc := 85) C dX9_open_85 rfl ?_
        exact r_iret (pc := 87) C hQ dX9_open_87 rfl (fin_okR (by unfold q_open; (repeat (first | rw [if_pos (by omega)] | rw [if_neg (by omega)])); (try first | rfl | assumption | omega)) (by rw [zand_1]; rfl) (by first | (rw [sSet_or (by omega) (by omega)]; (try rw [show i = 1 by omega])) | (rw [sSet_an (by omega) (by omega), show i = 0 by omega])))
  · refine r_iconst (pc := 8) C dX9_open_8 ?_
    refine r_goto (pc := 9) (tgt := 26) C dX9_open_9 (by decide) ?_
    refine r_istore_n (pc := 26) C 3 dX9_open_26 rfl (Nat.le_of_ble_eq_true rfl) ?_
    refine r_iload_n (pc := 27) C 3 dX9_open_27 rfl rfl ?_
    refine r_if_eq (pc := 28) (tgt := 37) C dX9_open_28 (by decide) (by first | omega | exact zand_rng _ _ | exact zor_rng _ _ | exact zxor_rng _ _ | exact BT.r (IT.b (by assumption)) _ _) (fun c28 => absurd c28 (by omega)) (fun c28 => ?_)
    refine r_aload_n (pc := 31) C 0 dX9_open_31 rfl rfl ?_
    refine r_iload_n (pc := 32) C 3 dX9_open_32 rfl rfl ?_
    refine r_callV (pc := 33) (is := [0, 1, 2, 3, 4, 5, 6, 7, 8]) C YX9_refuse dX9_open_33 tw_785 (c_X9_refuse l G _ _ _ _ (by first | assumption | omega | exact zand_rng _ _ | exact zor_rng _ _ | exact zxor_rng _ _ | exact BT.r (IT.b (by assumption)) _ _)) 0 0 rfl rfl (ci := 9) rfl rfl rfl (by decide) rfl rfl (Nat.le_of_ble_eq_true rfl) ⟨rfl, rfl, by decide, by decide⟩ (jst_i (R_uall ..) ?_)
    exact r_iret (pc := 36) C hQ dX9_open_36 rfl (fin_noR (by unfold q_open; (repeat (first | rw [if_pos (by omega)] | rw [if_neg (by omega)])); (try first | rfl | assumption | omega)) (by omega) rfl)

set_option maxRecDepth 100000 in
set_option maxHeartbeats 4000000 in
theorem c_X9_hawk (l : Launch) (G : GT) (b : Nat → Nat) (R T : Tn) (v : Int) (hI : IT T) (hR : IR R) (gv : -2147483648 ≤ v ∧ v < 2147483648) : Cn l yX9_hawk cX9_hawk 4 (Option.some .int) ({ frames := 1, cells := 0, slots := 0, locals := 22 }) G [.ref (b 0), .int (iI v)] (wR G b R T) (jst (some (.int (iI (zans (sOut v 0 20) (T 0 3))))) (wR G b (zif (sOut v 0 20) (R) (rfs R (sOut v 0 20))) (zif (sOut v 0 20) (up T 0 3 v) T))) := by
  refine Cn_in RX9 [some (.ref (b 0)), some (.int (iI v)), none, none] (by decide +kernel) rfl rfl rfl (Nat.le_of_ble_eq_true rfl) (fun K C hQ => ?_)
  obtain ⟨r0, r1, r3, r6, r8⟩ := hR
  have hBB := hI.b
  have hLL := hI.L
  have hDD := hI.D
  refine r_iload_n (pc := 0) C 1 dX9_hawk_0 rfl rfl ?_
  refine r_iconst (pc := 1) C dX9_hawk_1 ?_
  refine r_bipush (pc := 2) C dX9_hawk_2 (by decide) ?_
  refine r_callS (pc := 4) (is := []) C YX9_within dX9_hawk_4 tw_782 (c_X9_within l G _ _ _ (by first | assumption | omega | exact zand_rng _ _ | exact zor_rng _ _ | exact zxor_rng _ _ | exact BT.r (IT.b (by assumption)) _ _) (by first | assumption | omega | exact zand_rng _ _ | exact zor_rng _ _ | exact zxor_rng _ _ | exact BT.r (IT.b (by assumption)) _ _) (by first | assumption | omega | exact zand_rng _ _ | exact zor_rng _ _ | exact zxor_rng _ _ | exact BT.r (IT.b (by assumption)) _ _)) rfl (by decide) rfl rfl (Nat.le_of_ble_eq_true rfl) ⟨rfl, rfl, by decide, by decide⟩ (jst_i rfl ?_)
  have hs4 := sOut_r v 0 20 (by decide)
  refine r_istore_n (pc := 7) C 2 dX9_hawk_7 rfl (Nat.le_of_ble_eq_true rfl) ?_
  refine r_iload_n (pc := 8) C 2 dX9_hawk_8 rfl rfl ?_
  refine r_if_eq (pc := 9) (tgt := 18) C dX9_hawk_9 (by decide) (by first | omega | exact zand_rng _ _ | exact zor_rng _ _ | exact zxor_rng _ _ | exact BT.r (IT.b (by assumption)) _ _) (fun c9 => ?_) (fun c9 => ?_)
  · refine r_aload_n (pc := 18) C 0 dX9_hawk_18 rfl rfl ?_
    refine r_get (pc := 19) C 0 0 1 dX9_hawk_19 in_X9 rfl rfl (ci := 9) rfl (by decide) tw_742 rfl rfl ?_
    refine r_iconst (pc := 22) C dX9_hawk_22 ?_
    refine r_ialoadE (pc := 23) C 2 0 dX9_hawk_23 rfl rfl (by decide) (by omega) (flat_0 _ (by decide)) ?_
    refine r_istore_n (pc := 24) C 3 dX9_hawk_24 rfl (Nat.le_of_ble_eq_true rfl) ?_
    refine r_aload_n (pc := 25) C 0 dX9_hawk_25 rfl rfl ?_
    refine r_get (pc := 26) C 0 0 1 dX9_hawk_26 in_X9 rfl rfl (ci := 9) rfl (by decide) tw_742 rfl rfl ?_
    refine r_iconst (pc := 29) C dX9_hawk_29 ?_
    refine r_iload_n (pc := 30) C 1 dX9_hawk_30 rfl rfl ?_
    refine r_iastore (pc := 31) C 2 0 dX9_hawk_31 rfl rfl (by decide) (by omega) rfl (R_s0 _ _ _ _ (by decide)) ?_
    refine r_iload_n (pc := 32) C 3 dX9_hawk_32 rfl rfl ?_
    exact r_iret (pc := 33) C hQ dX9_hawk_33 rfl (fin_okR (by first | rfl | assumption) (by first | rfl | omega) (by rfl))
  · refine r_aload_n (pc := 12) C 0 dX9_hawk_12 rfl rfl ?_
    refine r_iload_n (pc := 13) C 2 dX9_hawk_13 rfl rfl ?_
    refine r_callV (pc := 14) (is := [0, 1, 2, 3, 4, 5, 6, 7, 8]) C YX9_refuse dX9_hawk_14 tw_785 (c_X9_refuse l G _ _ _ _ (by first | assumption | omega | exact zand_rng _ _ | exact zor_rng _ _ | exact zxor_rng _ _ | exact BT.r (IT.b (by assumption)) _ _)) 0 0 rfl rfl (ci := 9) rfl rfl rfl (by decide) rfl rfl (Nat.le_of_ble_eq_true rfl) ⟨rfl, rfl, by decide, by decide⟩ (jst_i (R_uall ..) ?_)
    exact r_iret (pc := 17) C hQ dX9_hawk_17 rfl (fin_noR (by first | rfl | assumption) (by omega) rfl)

set_option maxRecDepth 100000 in
set_option maxHeartbeats 4000000 in
theorem c_X9_carry (l : Launch) (G : GT) (b : Nat → Nat) (R T : Tn) (d z : Int) (hI : IT T) (hR : IR R) (gd : -2147483648 ≤ d ∧ d < 2147483648) (gz : -2147483648 ≤ z ∧ z < 2147483648) : Cn l yX9_carry cX9_carry 5 (Option.some .int) ({ frames := 2, cells := 0, slots := 0, locals := 43 }) G [.ref (b 0), .int (iI d), .int (iI z)] (wR G b R T) (jst (some (.int (iI (zans (q_carry T d z) (T 6 d))))) (wR G b (zif (q_carry T d z) (R) (rfs R (q_carry T d z))) (zif (q_carry T d z) (up T 6 d z) T))) := by
  refine Cn_in RX9 [some (.ref (b 0)), some (.int (iI d)), some (.int (iI z)), none, none] (by decide +kernel) rfl rfl rfl (Nat.le_of_ble_eq_true rfl) (fun K C hQ => ?_)
  obtain ⟨r0, r1, r3, r6, r8⟩ := hR
  have hBB := hI.b
  have hLL := hI.L
  have hDD := hI.D
  refine r_aload_n (pc := 0) C 0 dX9_carry_0 rfl rfl ?_
  refine r_iload_n (pc := 1) C 1 dX9_carry_1 rfl rfl ?_
  refine r_callV (pc := 2) (is := [0, 1, 2, 3, 4, 5, 6, 7, 8]) C YX9_isDove dX9_carry_2 tw_862 (c_X9_isDove l G _ _ _ _ (by first | assumption | omega | exact zand_rng _ _ | exact zor_rng _ _ | exact zxor_rng _ _ | exact BT.r (IT.b (by assumption)) _ _) (by first | assumption | omega | exact zand_rng _ _ | exact zor_rng _ _ | exact zxor_rng _ _ | exact BT.r (IT.b (by assumption)) _ _)) 0 0 rfl rfl (ci := 9) rfl rfl rfl (by decide) rfl rfl (Nat.le_of_ble_eq_true rfl) ⟨rfl, rfl, by decide, by decide⟩ (jst_i (R_uall ..) ?_)
  refine r_ifb_eq (pc := 5) (tgt := 16) C dX9_carry_5 (by decide) (fun c5 => ?_) (fun c5 => ?_)
  · refine r_iconst (pc := 16) C dX9_carry_16 ?_
    refine r_goto (pc := 17) (tgt := 34) C dX9_carry_17 (by decide) ?_
    refine r_istore_n (pc := 34) C 3 dX9_carry_34 rfl (Nat.le_of_ble_eq_true rfl) ?_
    refine r_iload_n (pc := 35) C 3 dX9_carry_35 rfl rfl ?_
    refine r_if_eq (pc := 36) (tgt := 45) C dX9_carry_36 (by decide) (by first | omega | exact zand_rng _ _ | exact zor_rng _ _ | exact zxor_rng _ _ | exact BT.r (IT.b (by assumption)) _ _) (fun c36 => absurd c36 (by omega)) (fun c36 => ?_)
    refine r_aload_n (pc := 39) C 0 dX9_carry_39 rfl rfl ?_
    refine r_iload_n (pc := 40) C 3 dX9_carry_40 rfl rfl ?_
    refine r_callV (pc := 41) (is := [0, 1, 2, 3, 4, 5, 6, 7, 8]) C YX9_refuse dX9_carry_41 tw_785 (c_X9_refuse l G _ _ _ _ (by first | assumption | omega | exact zand_rng _ _ | exact zor_rng _ _ | exact zxor_rng _ _ | exact BT.r (IT.b (by assumption)) _ _)) 0 0 rfl rfl (ci := 9) rfl rfl rfl (by decide) rfl rfl (Nat.le_of_ble_eq_true rfl) ⟨rfl, rfl, by decide, by decide⟩ (jst_i (R_uall ..) ?_)
    exact r_iret (pc := 44) C hQ dX9_carry_44 rfl (fin_noR (by unfold q_carry; (repeat (first | rw [if_pos (by omega)] | rw [if_neg (by omega)])); (try first | rfl | assumption | omega)) (by omega) rfl)
  · refine r_aload_n (pc := 8) C 0 dX9_carry_8 rfl rfl ?_
    refine r_iload_n (pc := 9) C 2 dX9_carry_9 rfl rfl ?_
    refine r_callV (pc := 10) (is := [0, 1, 2, 3, 4, 5, 6, 7, 8]) C YX9_isLoft dX9_carry_10 tw_834 (c_X9_isLoft l G _ _ _ _ (by first | assumption | omega | exact zand_rng _ _ | exact zor_rng _ _ | exact zxor_rng _ _ | exact BT.r (IT.b (by assumption)) _ _) (by first | assumption | omega | exact zand_rng _ _ | exact zor_rng _ _ | exact zxor_rng _ _ | exact BT.r (IT.b (by assumption)) _ _)) 0 0 rfl rfl (ci := 9) rfl rfl rfl (by decide) rfl rfl (Nat.le_of_ble_eq_true rfl) ⟨rfl, rfl, by decide, by decide⟩ (jst_i (R_uall ..) ?_)
    refine r_ifb_ne (pc := 13) (tgt := 20) C dX9_carry_13 (by decide) (fun c13 => ?_) (fun c13 => ?_)
    · refine r_aload_n (pc := 20) C 0 dX9_carry_20 rfl rfl ?_
      refine r_iload_n (pc := 21) C 1 dX9_carry_21 rfl rfl ?_
      refine r_callV (pc := 22) (is := [0, 1, 2, 3, 4, 5, 6, 7, 8]) C YX9_isLost dX9_carry_22 tw_854 (c_X9_isLost l G _ _ _ _ (by first | assumption | omega | exact zand_rng _ _ | exact zor_rng _ _ | exact zxor_rng _ _ | exact BT.r (IT.b (by assumption)) _ _) (by first | assumption | omega | exact zand_rng _ _ | exact zor_rng _ _ | exact zxor_rng _ _ | exact BT.r (IT.b (by assumption)) _ _)) 0 0 rfl rfl (ci := 9) rfl rfl rfl (by decide) rfl rfl (Nat.le_of_ble_eq_true rfl) ⟨rfl, rfl, by decide, by decide⟩ (jst_i (R_uall ..) ?_)
      refine r_ifb_eq (pc := 25) (tgt := 33) C dX9_carry_25 (by decide) (fun c25 => ?_) (fun c25 => ?_)
      · refine r_iconst (pc := 33) C dX9_carry_33 ?_
        refine r_istore_n (pc := 34) C 3 dX9_carry_34 rfl (Nat.le_of_ble_eq_true rfl) ?_
        refine r_iload_n (pc := 35) C 3 dX9_carry_35 rfl rfl ?_
        refine r_if_eq (pc := 36) (tgt := 45) C dX9_carry_36 (by decide) (by first | omega | exact zand_rng _ _ | exact zor_rng _ _ | exact zxor_rng _ _ | exact BT.r (IT.b (by assumption)) _ _) (fun c36 => ?_) (fun c36 => absurd c36 (by omega))
        refine r_aload_n (pc := 45) C 0 dX9_carry_45 rfl rfl ?_
        refine r_iload_n (pc := 46) C 1 dX9_carry_46 rfl rfl ?_
        refine r_iconst (pc := 47) C dX9_carry_47 ?_
        refine r_callV (pc := 48) (is := [0, 1, 2, 3, 4, 5, 6, 7, 8]) C YX9_get dX9_carry_48 tw_842 (c_X9_get3 l G _ _ _ _ (by first | assumption | omega | exact zand_rng _ _ | exact zor_rng _ _ | exact zxor_rng _ _ | exact BT.r (IT.b (by assumption)) _ _)) 0 0 rfl rfl (ci := 9) rfl rfl rfl (by decide) rfl rfl (Nat.le_of_ble_eq_true rfl) ⟨rfl, rfl, by decide, by decide⟩ (jst_i (R_uall ..) ?_)
        refine r_istore (pc := 51) C dX9_carry_51 (Nat.le_of_ble_eq_true rfl) ?_
        refine r_aload_n (pc := 53) C 0 dX9_carry_53 rfl rfl ?_
        refine r_iload_n (pc := 54) C 1 dX9_carry_54 rfl rfl ?_
        refine r_iconst (pc := 55) C dX9_carry_55 ?_
        refine r_iload_n (pc := 56) C 2 dX9_carry_56 rfl rfl ?_
        refine r_callV (pc := 57) (is := [0, 1, 2, 3, 4, 5, 6, 7, 8]) C YX9_puts dX9_carry_57 tw_893 (c_X9_puts3 l G _ _ _ _ _ (by first | assumption | omega | exact zand_rng _ _ | exact zor_rng _ _ | exact zxor_rng _ _ | exact BT.r (IT.b (by assumption)) _ _)) 0 0 rfl rfl (ci := 9) rfl rfl rfl (by decide) rfl rfl (Nat.le_of_ble_eq_true rfl) ⟨rfl, rfl, by decide, by decide⟩ (jst_v (R_uall ..) ?_)
        refine r_iload (pc := 60) C dX9_carry_60 rfl ?_
        exact r_iret (pc := 62) C hQ dX9_carry_62 rfl (fin_okR (by unfold q_carry; (repeat (first | rw [if_pos (by omega)] | rw [if_neg (by omega)])); (try first | rfl | assumption | omega)) (by first | rfl | omega) (by rfl))
      · refine r_bipush (pc := 28) C dX9_carry_28 (by decide) ?_
        refine r_goto (pc := 30) (tgt := 34) C dX9_carry_30 (by decide) ?_
        refine r_istore_n (pc := 34) C 3 dX9_carry_34 rfl (Nat.le_of_ble_eq_true rfl) ?_
        refine r_iload_n (pc := 35) C 3 dX9_carry_35 rfl rfl ?_
        refine r_if_eq (pc := 36) (tgt := 45) C dX9_carry_36 (by decide) (by first | omega | exact zand_rng _ _ | exact zor_rng _ _ | exact zxor_rng _ _ | exact BT.r (IT.b (by assumption)) _ _) (fun c36 => absurd c36 (by omega)) (fun c36 => ?_)
        refine r_aload_n (pc := 39) C 0 dX9_carry_39 rfl rfl ?_
        refine r_iload_n (pc := 40) C 3 dX9_carry_40 rfl rfl ?_
        refine r_callV (pc := 41) (is := [0, 1, 2, 3, 4, 5, 6, 7, 8]) C YX9_refuse dX9_carry_41 tw_785 (c_X9_refuse l G _ _ _ _ (by first | assumption | omega | exact zand_rng _ _ | exact zor_rng _ _ | exact zxor_rng _ _ | exact BT.r (IT.b (by assumption)) _ _)) 0 0 rfl rfl (ci := 9) rfl rfl rfl (by decide) rfl rfl (Nat.le_of_ble_eq_true rfl) ⟨rfl, rfl, by decide, by decide⟩ (jst_i (R_uall ..) ?_)
        exact r_iret (pc := 44) C hQ dX9_carry_44 rfl (fin_noR (by unfold q_carry; (repeat (first | rw [if_pos (by omega)] | rw [if_neg (by omega)])); (try first | rfl | assumption | omega)) (by omega) rfl)
    · refine r_iconst (pc := 16) C dX9_carry_16 ?_
      refine r_goto (pc := 17) (tgt := 34) C dX9_carry_17 (by decide) ?_
      refine r_istore_n (pc := 34) C 3 dX9_carry_34 rfl (Nat.le_of_ble_eq_true rfl) ?_
      refine r_iload_n (pc := 35) C 3 dX9_carry_35 rfl rfl ?_
      refine r_if_eq (pc := 36) (tgt := 45) C dX9_carry_36 (by decide) (by first | omega | exact zand_rng _ _ | exact zor_rng _ _ | exact zxor_rng _ _ | exact BT.r (IT.b (by assumption)) _ _) (fun c36 => absurd c36 (by omega)) (fun c36 => ?_)
      refine r_aload_n (pc := 39) C 0 dX9_carry_39 rfl rfl ?_
      refine r_iload_n (pc := 40) C 3 dX9_carry_40 rfl rfl ?_
      refine r_callV (pc := 41) (is := [0, 1, 2, 3, 4, 5, 6, 7, 8]) C YX9_refuse dX9_carry_41 tw_785 (c_X9_refuse l G _ _ _ _ (by first | assumption | omega | exact zand_rng _ _ | exact zor_rng _ _ | exact zxor_rng _ _ | exact BT.r (IT.b (by assumption)) _ _)) 0 0 rfl rfl (ci := 9) rfl rfl rfl (by decide) rfl rfl (Nat.le_of_ble_eq_true rfl) ⟨rfl, rfl, by decide, by decide⟩ (jst_i (R_uall ..) ?_)
      exact r_iret (pc := 44) C hQ dX9_carry_44 rfl (fin_noR (by unfold q_carry; (repeat (first | rw [if_pos (by omega)] | rw [if_neg (by omega)])); (try first | rfl | assumption | omega)) (by omega) rfl)

set_option maxRecDepth 100000 in
set_option maxHeartbeats 4000000 in
theorem c_X9_clip (l : Launch) (G : GT) (b : Nat → Nat) (R T : Tn) (d k : Int) (hI : IT T) (hR : IR R) (gd : -2147483648 ≤ d ∧ d < 2147483648) (gk : -2147483648 ≤ k ∧ k < 2147483648) : Cn l yX9_clip cX9_clip 5 (Option.some .int) ({ frames := 2, cells := 0, slots := 0, locals := 42 }) G [.ref (b 0), .int (iI d), .int (iI k)] (wR G b R T) (jst (some (.int (iI (zans (q_clip T d k) (T 7 d))))) (wR G b (zif (q_clip T d k) (R) (rfs R (q_clip T d k))) (zif (q_clip T d k) (up T 7 d k) T))) := by
  refine Cn_in RX9 [some (.ref (b 0)), some (.int (iI d)), some (.int (iI k)), none, none] (by decide +kernel) rfl rfl rfl (Nat.le_of_ble_eq_true rfl) (fun K C hQ => ?_)
  obtain ⟨r0, r1, r3, r6, r8⟩ := hR
  have hBB := hI.b
  have hLL := hI.L
  have hDD := hI.D
  refine r_aload_n (pc := 0) C 0 dX9_clip_0 rfl rfl ?_
  refine r_iload_n (pc := 1) C 1 dX9_clip_1 rfl rfl ?_
  refine r_callV (pc := 2) (is := [0, 1, 2, 3, 4, 5, 6, 7, 8]) C YX9_isDove dX9_clip_2 tw_862 (c_X9_isDove l G _ _ _ _ (by first | assumption | omega | exact zand_rng _ _ | exact zor_rng _ _ | exact zxor_rng _ _ | exact BT.r (IT.b (by assumption)) _ _) (by first | assumption | omega | exact zand_rng _ _ | exact zor_rng _ _ | exact zxor_rng _ _ | exact BT.r (IT.b (by assumption)) _ _)) 0 0 rfl rfl (ci := 9) rfl rfl rfl (by decide) rfl rfl (Nat.le_of_ble_eq_true rfl) ⟨rfl, rfl, by decide, by decide⟩ (jst_i (R_uall ..) ?_)
  refine r_ifb_eq (pc := 5) (tgt := 18) C dX9_clip_5 (by decide) (fun c5 => ?_) (fun c5 => ?_)
  · refine r_iconst (pc := 18) C dX9_clip_18 ?_
    refine r_istore_n (pc := 19) C 3 dX9_clip_19 rfl (Nat.le_of_ble_eq_true rfl) ?_
    refine r_iload_n (pc := 20) C 3 dX9_clip_20 rfl rfl ?_
    refine r_if_eq (pc := 21) (tgt := 30) C dX9_clip_21 (by decide) (by first | omega | exact zand_rng _ _ | exact zor_rng _ _ | exact zxor_rng _ _ | exact BT.r (IT.b (by assumption)) _ _) (fun c21 => absurd c21 (by omega)) (fun c21 => ?_)
    refine r_aload_n (pc := 24) C 0 dX9_clip_24 rfl rfl ?_
    refine r_iload_n (pc := 25) C 3 dX9_clip_25 rfl rfl ?_
    refine r_callV (pc := 26) (is := [0, 1, 2, 3, 4, 5, 6, 7, 8]) C YX9_refuse dX9_clip_26 tw_785 (c_X9_refuse l G _ _ _ _ (by first | assumption | omega | exact zand_rng _ _ | exact zor_rng _ _ | exact zxor_rng _ _ | exact BT.r (IT.b (by assumption)) _ _)) 0 0 rfl rfl (ci := 9) rfl rfl rfl (by decide) rfl rfl (Nat.le_of_ble_eq_true rfl) ⟨rfl, rfl, by decide, by decide⟩ (jst_i (R_uall ..) ?_)
    exact r_iret (pc := 29) C hQ dX9_clip_29 rfl (fin_noR (by unfold q_clip; (repeat (first | rw [if_pos (by omega)] | rw [if_neg (by omega)])); (try first | rfl | assumption | omega)) (by omega) rfl)
  · refine r_iload_n (pc := 8) C 2 dX9_clip_8 rfl rfl ?_
    refine r_iconst (pc := 9) C dX9_clip_9 ?_
    refine r_bipush (pc := 10) C dX9_clip_10 (by decide) ?_
    refine r_callS (pc := 12) (is := []) C YX9_within dX9_clip_12 tw_782 (c_X9_within l G _ _ _ (by first | assumption | omega | exact zand_rng _ _ | exact zor_rng _ _ | exact zxor_rng _ _ | exact BT.r (IT.b (by assumption)) _ _) (by first | assumption | omega | exact zand_rng _ _ | exact zor_rng _ _ | exact zxor_rng _ _ | exact BT.r (IT.b (by assumption)) _ _) (by first | assumption | omega | exact zand_rng _ _ | exact zor_rng _ _ | exact zxor_rng _ _ | exact BT.r (IT.b (by assumption)) _ _)) rfl (by decide) rfl rfl (Nat.le_of_ble_eq_true rfl) ⟨rfl, rfl, by decide, by decide⟩ (jst_i rfl ?_)
    have hs12 := sOut_r k 0 9 (by decide)
    refine r_goto (pc := 15) (tgt := 19) C dX9_clip_15 (by decide) ?_
    refine r_istore_n (pc := 19) C 3 dX9_clip_19 rfl (Nat.le_of_ble_eq_true rfl) ?_
    refine r_iload_n (pc := 20) C 3 dX9_clip_20 rfl rfl ?_
    refine r_if_eq (pc := 21) (tgt := 30) C dX9_clip_21 (by decide) (by first | omega | exact zand_rng _ _ | exact zor_rng _ _ | exact zxor_rng _ _ | exact BT.r (IT.b (by assumption)) _ _) (fun c21 => ?_) (fun c21 => ?_)
    · refine r_aload_n (pc := 30) C 0 dX9_clip_30 rfl rfl ?_
      refine r_iload_n (pc := 31) C 1 dX9_clip_31 rfl rfl ?_
      refine r_iconst (pc := 32) C dX9_clip_32 ?_
      refine r_callV (pc := 33) (is := [0, 1, 2, 3, 4, 5, 6, 7, 8]) C YX9_get dX9_clip_33 tw_842 (c_X9_get4 l G _ _ _ _ (by first | assumption | omega | exact zand_rng _ _ | exact zor_rng _ _ | exact zxor_rng _ _ | exact BT.r (IT.b (by assumption)) _ _)) 0 0 rfl rfl (ci := 9) rfl rfl rfl (by decide) rfl rfl (Nat.le_of_ble_eq_true rfl) ⟨rfl, rfl, by decide, by decide⟩ (jst_i (R_uall ..) ?_)
      refine r_istore (pc := 36) C dX9_clip_36 (Nat.le_of_ble_eq_true rfl) ?_
      refine r_aload_n (pc := 38) C 0 dX9_clip_38 rfl rfl ?_
      refine r_iload_n (pc := 39) C 1 dX9_clip_39 rfl rfl ?_
      refine r_iconst (pc := 40) C dX9_clip_40 ?_
      refine r_iload_n (pc := 41) C 2 dX9_clip_41 rfl rfl ?_
      refine r_callV (pc := 42) (is := [0, 1, 2, 3, 4, 5, 6, 7, 8]) C YX9_puts dX9_clip_42 tw_893 (c_X9_puts4 l G _ _ _ _ _ (by first | assumption | omega | exact zand_rng _ _ | exact zor_rng _ _ | exact zxor_rng _ _ | exact BT.r (IT.b (by assumption)) _ _)) 0 0 rfl rfl (ci := 9) rfl rfl rfl (by decide) rfl rfl (Nat.le_of_ble_eq_true rfl) ⟨rfl, rfl, by decide, by decide⟩ (jst_v (R_uall ..) ?_)
      refine r_iload (pc := 45) C dX9_clip_45 rfl ?_
      exact r_iret (pc := 47) C hQ dX9_clip_47 rfl (fin_okR (by unfold q_clip; (repeat (first | rw [if_pos (by omega)] | rw [if_neg (by omega)])); (try first | rfl | assumption | omega)) (by first | rfl | omega) (by rfl))
    · refine r_aload_n (pc := 24) C 0 dX9_clip_24 rfl rfl ?_
      refine r_iload_n (pc := 25) C 3 dX9_clip_25 rfl rfl ?_
      refine r_callV (pc := 26) (is := [0, 1, 2, 3, 4, 5, 6, 7, 8]) C YX9_refuse dX9_clip_26 tw_785 (c_X9_refuse l G _ _ _ _ (by first | assumption | omega | exact zand_rng _ _ | exact zor_rng _ _ | exact zxor_rng _ _ | exact BT.r (IT.b (by assumption)) _ _)) 0 0 rfl rfl (ci := 9) rfl rfl rfl (by decide) rfl rfl (Nat.le_of_ble_eq_true rfl) ⟨rfl, rfl, by decide, by decide⟩ (jst_i (R_uall ..) ?_)
      exact r_iret (pc := 29) C hQ dX9_clip_29 rfl (fin_noR (by unfold q_clip; (repeat (first | rw [if_pos (by omega)] | rw [if_neg (by omega)])); (try first | rfl | assumption | omega)) (by omega) rfl)

set_option maxRecDepth 100000 in
set_option maxHeartbeats 4000000 in
theorem c_X9_go (l : Launch) (G : GT) (b : Nat → Nat) (R T : Tn) (d : Int) (hI : IT T) (hR : IR R) (gd : -2147483648 ≤ d ∧ d < 2147483648) : Cn l yX9_go cX9_go 3 (Option.some .int) ({ frames := 5, cells := 0, slots := 0, locals := 112 }) G [.ref (b 0), .int (iI d)] (wR G b R T) (jst (some (.int (iI (zans (q_go T d) (sGo T d 99 6 d))))) (wR G b (zif (q_go T d) (R) (rfs R (q_go T d))) (zif (q_go T d) (sGo T d 99) T))) := by
  refine Cn_in RX9 [some (.ref (b 0)), some (.int (iI d)), none] (by decide +kernel) rfl rfl rfl (Nat.le_of_ble_eq_true rfl) (fun K C hQ => ?_)
  obtain ⟨r0, r1, r3, r6, r8⟩ := hR
  have hBB := hI.b
  have hLL := hI.L
  have hDD := hI.D
  refine r_aload_n (pc := 0) C 0 dX9_go_0 rfl rfl ?_
  refine r_iload_n (pc := 1) C 1 dX9_go_1 rfl rfl ?_
  refine r_callV (pc := 2) (is := [0, 1, 2, 3, 4, 5, 6, 7, 8]) C YX9_isDove dX9_go_2 tw_862 (c_X9_isDove l G _ _ _ _ (by first | assumption | omega | exact zand_rng _ _ | exact zor_rng _ _ | exact zxor_rng _ _ | exact BT.r (IT.b (by assumption)) _ _) (by first | assumption | omega | exact zand_rng _ _ | exact zor_rng _ _ | exact zxor_rng _ _ | exact BT.r (IT.b (by assumption)) _ _)) 0 0 rfl rfl (ci := 9) rfl rfl rfl (by decide) rfl rfl (Nat.le_of_ble_eq_true rfl) ⟨rfl, rfl, by decide, by decide⟩ (jst_i (R_uall ..) ?_)
  refine r_ifb_ne (pc := 5) (tgt := 12) C dX9_go_5 (by decide) (fun c5 => ?_) (fun c5 => ?_)
  · refine r_aload_n (pc := 12) C 0 dX9_go_12 rfl rfl ?_
    refine r_iload_n (pc := 13) C 1 dX9_go_13 rfl rfl ?_
    refine r_callV (pc := 14) (is := [0, 1, 2, 3, 4, 5, 6, 7, 8]) C YX9_isLost dX9_go_14 tw_854 (c_X9_isLost l G _ _ _ _ (by first | assumption | omega | exact zand_rng _ _ | exact zor_rng _ _ | exact zxor_rng _ _ | exact BT.r (IT.b (by assumption)) _ _) (by first | assumption | omega | exact zand_rng _ _ | exact zor_rng _ _ | exact zxor_rng _ _ | exact BT.r (IT.b (by assumption)) _ _)) 0 0 rfl rfl (ci := 9) rfl rfl rfl (by decide) rfl rfl (Nat.le_of_ble_eq_true rfl) ⟨rfl, rfl, by decide, by decide⟩ (jst_i (R_uall ..) ?_)
    refine r_ifb_ne (pc := 17) (tgt := 29) C dX9_go_17 (by decide) (fun c17 => ?_) (fun c17 => ?_)
    · refine r_bipush (pc := 29) C dX9_go_29 (by decide) ?_
      refine r_goto (pc := 31) (tgt := 35) C dX9_go_31 (by decide) ?_
      refine r_istore_n (pc := 35) C 2 dX9_go_35 rfl (Nat.le_of_ble_eq_true rfl) ?_
      refine r_iload_n (pc := 36) C 2 dX9_go_36 rfl rfl ?_
      refine r_if_eq (pc := 37) (tgt := 46) C dX9_go_37 (by decide) (by first | omega | exact zand_rng _ _ | exact zor_rng _ _ | exact zxor_rng _ _ | exact BT.r (IT.b (by assumption)) _ _) (fun c37 => absurd c37 (by omega)) (fun c37 => ?_)
      refine r_aload_n (pc := 40) C 0 dX9_go_40 rfl rfl ?_
      refine r_iload_n (pc := 41) C 2 dX9_go_41 rfl rfl ?_
      refine r_callV (pc := 42) (is := [0, 1, 2, 3, 4, 5, 6, 7, 8]) C YX9_refuse dX9_go_42 tw_785 (c_X9_refuse l G _ _ _ _ (by first | assumption | omega | exact zand_rng _ _ | exact zor_rng _ _ | exact zxor_rng _ _ | exact BT.r (IT.b (by assumption)) _ _)) 0 0 rfl rfl (ci := 9) rfl rfl rfl (by decide) rfl rfl (Nat.le_of_ble_eq_true rfl) ⟨rfl, rfl, by decide, by decide⟩ (jst_i (R_uall ..) ?_)
      exact r_iret (pc := 45) C hQ dX9_go_45 rfl (fin_noR (by unfold q_go; (repeat (first | rw [if_pos (by omega)] | rw [if_neg (by omega)])); (try first | rfl | assumption | omega)) (by omega) rfl)
    · refine r_aload_n (pc := 20) C 0 dX9_go_20 rfl rfl ?_
      refine r_iload_n (pc := 21) C 1 dX9_go_21 rfl rfl ?_
      refine r_iconst (pc := 22) C dX9_go_22 ?_
      refine r_callV (pc := 23) (is := [0, 1, 2, 3, 4, 5, 6, 7, 8]) C YX9_get dX9_go_23 tw_842 (c_X9_get4 l G _ _ _ _ (by first | assumption | omega | exact zand_rng _ _ | exact zor_rng _ _ | exact zxor_rng _ _ | exact BT.r (IT.b (by assumption)) _ _)) 0 0 rfl rfl (ci := 9) rfl rfl rfl (by decide) rfl rfl (Nat.le_of_ble_eq_true rfl) ⟨rfl, rfl, by decide, by decide⟩ (jst_i (R_uall ..) ?_)
      refine r_if_le (pc := 26) (tgt := 34) C dX9_go_26 (by decide) (by first | omega | exact zand_rng _ _ | exact zor_rng _ _ | exact zxor_rng _ _ | exact BT.r (IT.b (by assumption)) _ _) (fun c26 => ?_) (fun c26 => ?_)
      · refine r_iconst (pc := 34) C dX9_go_34 ?_
        refine r_istore_n (pc := 35) C 2 dX9_go_35 rfl (Nat.le_of_ble_eq_true rfl) ?_
        refine r_iload_n (pc := 36) C 2 dX9_go_36 rfl rfl ?_
        refine r_if_eq (pc := 37) (tgt := 46) C dX9_go_37 (by decide) (by first | omega | exact zand_rng _ _ | exact zor_rng _ _ | exact zxor_rng _ _ | exact BT.r (IT.b (by assumption)) _ _) (fun c37 => ?_) (fun c37 => absurd c37 (by omega))
        refine r_aload_n (pc := 46) C 0 dX9_go_46 rfl rfl ?_
        refine r_iload_n (pc := 47) C 1 dX9_go_47 rfl rfl ?_
        refine r_bipush (pc := 48) C dX9_go_48 (by decide) ?_
        refine r_callV (pc := 50) (is := [0, 1, 2, 3, 4, 5, 6, 7, 8]) C YX9_goesHome dX9_go_50 tw_905 (c_X9_goesHome l G _ _ _ _ _ (by first | assumption | omega | exact zand_rng _ _ | exact zor_rng _ _ | exact zxor_rng _ _ | exact BT.r (IT.b (by assumption)) _ _) (by first | assumption | omega | exact zand_rng _ _ | exact zor_rng _ _ | exact zxor_rng _ _ | exact BT.r (IT.b (by assumption)) _ _) (by first | assumption | omega | exact zand_rng _ _ | exact zor_rng _ _ | exact zxor_rng _ _ | exact BT.r (IT.b (by assumption)) _ _)) 0 0 rfl rfl (ci := 9) rfl rfl rfl (by decide) rfl rfl (Nat.le_of_ble_eq_true rfl) ⟨rfl, rfl, by decide, by decide⟩ (jst_v (R_uall ..) ?_)
        refine r_aload_n (pc := 53) C 0 dX9_go_53 rfl rfl ?_
        refine r_iload_n (pc := 54) C 1 dX9_go_54 rfl rfl ?_
        refine r_iconst (pc := 55) C dX9_go_55 ?_
        refine r_callV (pc := 56) (is := [0, 1, 2, 3, 4, 5, 6, 7, 8]) C YX9_get dX9_go_56 tw_842 (c_X9_get3 l G _ _ _ _ (by omega)) 0 0 rfl rfl (ci := 9) rfl rfl rfl (by decide) rfl rfl (Nat.le_of_ble_eq_true rfl) ⟨rfl, rfl, by decide, by decide⟩ (jst_i (R_uall ..) ?_)
        exact r_iret (pc := 59) C hQ dX9_go_59 rfl (fin_okR (by unfold q_go; (repeat (first | rw [if_pos (by omega)] | rw [if_neg (by omega)])); (try first | rfl | assumption | omega)) (by first | rfl | omega) (by rfl))
      · refine r_bipush (pc := 29) C dX9_go_29 (by decide) ?_
        refine r_goto (pc := 31) (tgt := 35) C dX9_go_31 (by decide) ?_
        refine r_istore_n (pc := 35) C 2 dX9_go_35 rfl (Nat.le_of_ble_eq_true rfl) ?_
        refine r_iload_n (pc := 36) C 2 dX9_go_36 rfl rfl ?_
        refine r_if_eq (pc := 37) (tgt := 46) C dX9_go_37 (by decide) (by first | omega | exact zand_rng _ _ | exact zor_rng _ _ | exact zxor_rng _ _ | exact BT.r (IT.b (by assumption)) _ _) (fun c37 => absurd c37 (by omega)) (fun c37 => ?_)
        refine r_aload_n (pc := 40) C 0 dX9_go_40 rfl rfl ?_
        refine r_iload_n (pc := 41) C 2 dX9_go_41 rfl rfl ?_
        refine r_callV (pc := 42) (is := [0, 1, 2, 3, 4, 5, 6, 7, 8]) C YX9_refuse dX9_go_42 tw_785 (c_X9_refuse l G _ _ _ _ (by first | assumption | omega | exact zand_rng _ _ | exact zor_rng _ _ | exact zxor_rng _ _ | exact BT.r (IT.b (by assumption)) _ _)) 0 0 rfl rfl (ci := 9) rfl rfl rfl (by decide) rfl rfl (Nat.le_of_ble_eq_true rfl) ⟨rfl, rfl, by decide, by decide⟩ (jst_i (R_uall ..) ?_)
        exact r_iret (pc := 45) C hQ dX9_go_45 rfl (fin_noR (by unfold q_go; (repeat (first | rw [if_pos (by omega)] | rw [if_neg (by omega)])); (try first | rfl | assumption | omega)) (by omega) rfl)
  · refine r_iconst (pc := 8) C dX9_go_8 ?_
    refine r_goto (pc := 9) (tgt := 35) C dX9_go_9 (by decide) ?_
    refine r_istore_n (pc := 35) C 2 dX9_go_35 rfl (Nat.le_of_ble_eq_true rfl) ?_
    refine r_iload_n (pc := 36) C 2 dX9_go_36 rfl rfl ?_
    refine r_if_eq (pc := 37) (tgt := 46) C dX9_go_37 (by decide) (by first | omega | exact zand_rng _ _ | exact zor_rng _ _ | exact zxor_rng _ _ | exact BT.r (IT.b (by assumption)) _ _) (fun c37 => absurd c37 (by omega)) (fun c37 => ?_)
    refine r_aload_n (pc := 40) C 0 dX9_go_40 rfl rfl ?_
    refine r_iload_n (pc := 41) C 2 dX9_go_41 rfl rfl ?_
    refine r_callV (pc := 42) (is := [0, 1, 2, 3, 4, 5, 6, 7, 8]) C YX9_refuse dX9_go_42 tw_785 (c_X9_refuse l G _ _ _ _ (by first | assumption | omega | exact zand_rng _ _ | exact zor_rng _ _ | exact zxor_rng _ _ | exact BT.r (IT.b (by assumption)) _ _)) 0 0 rfl rfl (ci := 9) rfl rfl rfl (by decide) rfl rfl (Nat.le_of_ble_eq_true rfl) ⟨rfl, rfl, by decide, by decide⟩ (jst_i (R_uall ..) ?_)
    exact r_iret (pc := 45) C hQ dX9_go_45 rfl (fin_noR (by unfold q_go; (repeat (first | rw [if_pos (by omega)] | rw [if_neg (by omega)])); (try first | rfl | assumption | omega)) (by omega) rfl)

set_option maxRecDepth 100000 in
set_option maxHeartbeats 4000000 in
theorem c_X9_dusk (l : Launch) (G : GT) (b : Nat → Nat) (R T : Tn) (hI : IT T) (hR : IR R) (hk9 : T 0 4 ≤ 999) : Cn l yX9_dusk cX9_dusk 2 (Option.some .int) ({ frames := 6, cells := 0, slots := 0, locals := 134 }) G [.ref (b 0)] (wR G b R T) (jst (some (.int (iI (zans (q_dusk T) (sLost (sDusk T) (sDusk T 0 1) - sLost T (T 0 1)))))) (wR G b (zif (q_dusk T) (R) (rfs R (q_dusk T))) (zif (q_dusk T) (sDusk T) T))) := by
  refine Cn_in RX9 [some (.ref (b 0)), none] (by decide +kernel) rfl rfl rfl (Nat.le_of_ble_eq_true rfl) (fun K C hQ => ?_)
  obtain ⟨r0, r1, r3, r6, r8⟩ := hR
  have hBB := hI.b
  have hLL := hI.L
  have hDD := hI.D
  have hkk := hI.k
  refine r_aload_n (pc := 0) C 0 dX9_dusk_0 rfl rfl ?_
  refine r_get (pc := 1) C 0 0 1 dX9_dusk_1 in_X9 rfl rfl (ci := 9) rfl (by decide) tw_742 rfl rfl ?_
  refine r_iconst (pc := 4) C dX9_dusk_4 ?_
  refine r_ialoadE (pc := 5) C 2 0 dX9_dusk_5 rfl rfl (by decide) (by omega) (flat_0 _ (by decide)) ?_
  refine r_sipush (pc := 6) C dX9_dusk_6 (by decide) ?_
  refine r_icmp_ne (pc := 9) (tgt := 19) C dX9_dusk_9 (by decide) (by first | omega | exact zand_rng _ _ | exact zor_rng _ _ | exact zxor_rng _ _ | exact BT.r (IT.b (by assumption)) _ _) (by first | omega | exact zand_rng _ _ | exact zor_rng _ _ | exact zxor_rng _ _ | exact BT.r (IT.b (by assumption)) _ _) (fun c9 => ?_) (fun c9 => ?_)
  · refine r_aload_n (pc := 19) C 0 dX9_dusk_19 rfl rfl ?_
    refine r_callV (pc := 20) (is := [0, 1, 2, 3, 4, 5, 6, 7, 8]) C YX9_lostMany dX9_dusk_20 tw_913 (c_X9_lostMany l G _ _ _ (by first | assumption | omega | exact zand_rng _ _ | exact zor_rng _ _ | exact zxor_rng _ _ | exact BT.r (IT.b (by assumption)) _ _)) 0 0 rfl rfl (ci := 9) rfl rfl rfl (by decide) rfl rfl (Nat.le_of_ble_eq_true rfl) ⟨rfl, rfl, by decide, by decide⟩ (jst_i (R_uall ..) ?_)
    refine r_istore_n (pc := 23) C 1 dX9_dusk_23 rfl (Nat.le_of_ble_eq_true rfl) ?_
    refine r_aload_n (pc := 24) C 0 dX9_dusk_24 rfl rfl ?_
    refine r_callV (pc := 25) (is := [0, 1, 2, 3, 4, 5, 6, 7, 8]) C YX9_goes dX9_dusk_25 tw_917 (c_X9_goes l G _ _ _ (by first | assumption | omega | exact zand_rng _ _ | exact zor_rng _ _ | exact zxor_rng _ _ | exact BT.r (IT.b (by assumption)) _ _) (by first | assumption | omega | exact zand_rng _ _ | exact zor_rng _ _ | exact zxor_rng _ _ | exact BT.r (IT.b (by assumption)) _ _)) 0 0 rfl rfl (ci := 9) rfl rfl rfl (by decide) rfl rfl (Nat.le_of_ble_eq_true rfl) ⟨rfl, rfl, by decide, by decide⟩ (jst_v (R_uall ..) ?_)
    obtain ⟨hI2, -⟩ := sDusk_p hI (by omega)
    refine r_aload_n (pc := 28) C 0 dX9_dusk_28 rfl rfl ?_
    refine r_callV (pc := 29) (is := [0, 1, 2, 3, 4, 5, 6, 7, 8]) C YX9_lostMany dX9_dusk_29 tw_913 (c_X9_lostMany l G _ _ _ (by first | assumption | omega | exact zand_rng _ _ | exact zor_rng _ _ | exact zxor_rng _ _ | exact BT.r (IT.b (by assumption)) _ _)) 0 0 rfl rfl (ci := 9) rfl rfl rfl (by decide) rfl rfl (Nat.le_of_ble_eq_true rfl) ⟨rfl, rfl, by decide, by decide⟩ (jst_i (R_uall ..) ?_)
    refine r_iload_n (pc := 32) C 1 dX9_dusk_32 rfl rfl ?_
    refine r_isub (pc := 33) C dX9_dusk_33 ?_
    exact r_iret (pc := 34) C hQ dX9_dusk_34 rfl (fin_okR (by unfold q_dusk; (repeat (first | rw [if_pos (by omega)] | rw [if_neg (by omega)])); (try first | rfl | assumption | omega)) (by first | rfl | omega) (by rfl))
  · refine r_aload_n (pc := 12) C 0 dX9_dusk_12 rfl rfl ?_
    refine r_bipush (pc := 13) C dX9_dusk_13 (by decide) ?_
    refine r_callV (pc := 15) (is := [0, 1, 2, 3, 4, 5, 6, 7, 8]) C YX9_refuse dX9_dusk_15 tw_785 (c_X9_refuse l G _ _ _ _ (by first | assumption | omega | exact zand_rng _ _ | exact zor_rng _ _ | exact zxor_rng _ _ | exact BT.r (IT.b (by assumption)) _ _)) 0 0 rfl rfl (ci := 9) rfl rfl rfl (by decide) rfl rfl (Nat.le_of_ble_eq_true rfl) ⟨rfl, rfl, by decide, by decide⟩ (jst_i (R_uall ..) ?_)
    exact r_iret (pc := 18) C hQ dX9_dusk_18 rfl (fin_noR (by unfold q_dusk; (repeat (first | rw [if_pos (by omega)] | rw [if_neg (by omega)])); (try first | rfl | assumption | omega)) (by omega) rfl)

set_option maxRecDepth 100000 in
set_option maxHeartbeats 4000000 in
theorem c_X9_way (l : Launch) (G : GT) (b : Nat → Nat) (R T : Tn) (x y : Int) (hI : IT T) (hR : IR R) (gx : -2147483648 ≤ x ∧ x < 2147483648) (gy : -2147483648 ≤ y ∧ y < 2147483648) : Cn l yX9_way cX9_way 3 (Option.some .int) ({ frames := 2, cells := 0, slots := 0, locals := 42 }) G [.ref (b 0), .int (iI x), .int (iI y)] (wR G b R T) (jst (some (.int (iI (zans (q_way T x y) (sWay T x y))))) (wR G b (zif (q_way T x y) (R) (rfs R (q_way T x y))) (zif (q_way T x y) (T) T))) := by
  refine Cn_in RX9 [some (.ref (b 0)), some (.int (iI x)), some (.int (iI y))] (by decide +kernel) rfl rfl rfl (Nat.le_of_ble_eq_true rfl) (fun K C hQ => ?_)
  obtain ⟨r0, r1, r3, r6, r8⟩ := hR
  have hBB := hI.b
  have hLL := hI.L
  have hDD := hI.D
  refine r_aload_n (pc := 0) C 0 dX9_way_0 rfl rfl ?_
  refine r_iload_n (pc := 1) C 1 dX9_way_1 rfl rfl ?_
  refine r_callV (pc := 2) (is := [0, 1, 2, 3, 4, 5, 6, 7, 8]) C YX9_isLoft dX9_way_2 tw_834 (c_X9_isLoft l G _ _ _ _ (by first | assumption | omega | exact zand_rng _ _ | exact zor_rng _ _ | exact zxor_rng _ _ | exact BT.r (IT.b (by assumption)) _ _) (by first | assumption | omega | exact zand_rng _ _ | exact zor_rng _ _ | exact zxor_rng _ _ | exact BT.r (IT.b (by assumption)) _ _)) 0 0 rfl rfl (ci := 9) rfl rfl rfl (by decide) rfl rfl (Nat.le_of_ble_eq_true rfl) ⟨rfl, rfl, by decide, by decide⟩ (jst_i (R_uall ..) ?_)
  refine r_ifb_eq (pc := 5) (tgt := 25) C dX9_way_5 (by decide) (fun c5 => ?_) (fun c5 => ?_)
  · refine r_aload_n (pc := 25) C 0 dX9_way_25 rfl rfl ?_
    refine r_iconst (pc := 26) C dX9_way_26 ?_
    refine r_callV (pc := 27) (is := [0, 1, 2, 3, 4, 5, 6, 7, 8]) C YX9_refuse dX9_way_27 tw_785 (c_X9_refuse l G _ _ _ _ (by first | assumption | omega | exact zand_rng _ _ | exact zor_rng _ _ | exact zxor_rng _ _ | exact BT.r (IT.b (by assumption)) _ _)) 0 0 rfl rfl (ci := 9) rfl rfl rfl (by decide) rfl rfl (Nat.le_of_ble_eq_true rfl) ⟨rfl, rfl, by decide, by decide⟩ (jst_i (R_uall ..) ?_)
    exact r_iret (pc := 30) C hQ dX9_way_30 rfl (fin_noR (by unfold q_way; first | rw [if_pos (by omega)] | rw [if_neg (by omega)]) (by omega) rfl)
  · refine r_aload_n (pc := 8) C 0 dX9_way_8 rfl rfl ?_
    refine r_iload_n (pc := 9) C 2 dX9_way_9 rfl rfl ?_
    refine r_callV (pc := 10) (is := [0, 1, 2, 3, 4, 5, 6, 7, 8]) C YX9_isLoft dX9_way_10 tw_834 (c_X9_isLoft l G _ _ _ _ (by first | assumption | omega | exact zand_rng _ _ | exact zor_rng _ _ | exact zxor_rng _ _ | exact BT.r (IT.b (by assumption)) _ _) (by first | assumption | omega | exact zand_rng _ _ | exact zor_rng _ _ | exact zxor_rng _ _ | exact BT.r (IT.b (by assumption)) _ _)) 0 0 rfl rfl (ci := 9) rfl rfl rfl (by decide) rfl rfl (Nat.le_of_ble_eq_true rfl) ⟨rfl, rfl, by decide, by decide⟩ (jst_i (R_uall ..) ?_)
    refine r_ifb_eq (pc := 13) (tgt := 25) C dX9_way_13 (by decide) (fun c13 => ?_) (fun c13 => ?_)
    · refine r_aload_n (pc := 25) C 0 dX9_way_25 rfl rfl ?_
      refine r_iconst (pc := 26) C dX9_way_26 ?_
      refine r_callV (pc := 27) (is := [0, 1, 2, 3, 4, 5, 6, 7, 8]) C YX9_refuse dX9_way_27 tw_785 (c_X9_refuse l G _ _ _ _ (by first | assumption | omega | exact zand_rng _ _ | exact zor_rng _ _ | exact zxor_rng _ _ | exact BT.r (IT.b (by assumption)) _ _)) 0 0 rfl rfl (ci := 9) rfl rfl rfl (by decide) rfl rfl (Nat.le_of_ble_eq_true rfl) ⟨rfl, rfl, by decide, by decide⟩ (jst_i (R_uall ..) ?_)
      exact r_iret (pc := 30) C hQ dX9_way_30 rfl (fin_noR (by unfold q_way; first | rw [if_pos (by omega)] | rw [if_neg (by omega)]) (by omega) rfl)
    · refine r_aload_n (pc := 16) C 0 dX9_way_16 rfl rfl ?_
      refine r_iload_n (pc := 17) C 1 dX9_way_17 rfl rfl ?_
      refine r_iload_n (pc := 18) C 2 dX9_way_18 rfl rfl ?_
      refine r_callV (pc := 19) (is := [0, 1, 2, 3, 4, 5, 6, 7, 8]) C YX9_wayOf dX9_way_19 tw_870 (c_X9_wayOf l G _ _ _ _ _ (by first | assumption | omega | exact zand_rng _ _ | exact zor_rng _ _ | exact zxor_rng _ _ | exact BT.r (IT.b (by assumption)) _ _) (by first | assumption | omega | exact zand_rng _ _ | exact zor_rng _ _ | exact zxor_rng _ _ | exact BT.r (IT.b (by assumption)) _ _) (by first | assumption | omega | exact zand_rng _ _ | exact zor_rng _ _ | exact zxor_rng _ _ | exact BT.r (IT.b (by assumption)) _ _)) 0 0 rfl rfl (ci := 9) rfl rfl rfl (by decide) rfl rfl (Nat.le_of_ble_eq_true rfl) ⟨rfl, rfl, by decide, by decide⟩ (jst_i (R_uall ..) ?_)
      refine r_goto (pc := 22) (tgt := 30) C dX9_way_22 (by decide) ?_
      exact r_iret (pc := 30) C hQ dX9_way_30 rfl (fin_okR (by unfold q_way; first | rw [if_pos (by omega)] | rw [if_neg (by omega)]) (by first | rfl | omega) (by rfl))

set_option maxRecDepth 100000 in
set_option maxHeartbeats 4000000 in
theorem c_X9_purse (l : Launch) (G : GT) (b : Nat → Nat) (R T : Tn) (z m : Int) (hI : IT T) (hR : IR R) (hk9 : T 0 4 ≤ 999) (gz : -2147483648 ≤ z ∧ z < 2147483648) (gm : -2147483648 ≤ m ∧ m < 2147483648) : Cn l yX9_purse cX9_purse 5 (Option.some .int) ({ frames := 7, cells := 0, slots := 0, locals := 156 }) G [.ref (b 0), .int (iI z), .int (iI m)] (wR G b R T) (jst (some (.int (iI (zans (q_lo T z m 0 40) (sPur T z m))))) (wR G b (zif (q_lo T z m 0 40) (up1 R 5 (flat T)) (rfs R (q_lo T z m 0 40))) (zif (q_lo T z m 0 40) (T) T))) := by
  refine Cn_in RX9 [some (.ref (b 0)), some (.int (iI z)), some (.int (iI m)), none, none] (by decide +kernel) rfl rfl rfl (Nat.le_of_ble_eq_true rfl) (fun K C hQ => ?_)
  obtain ⟨r0, r1, r3, r6, r8⟩ := hR
  have hBB := hI.b
  have hLL := hI.L
  have hDD := hI.D
  have hkk := hI.k
  refine r_aload_n (pc := 0) C 0 dX9_purse_0 rfl rfl ?_
  refine r_iload_n (pc := 1) C 1 dX9_purse_1 rfl rfl ?_
  refine r_callV (pc := 2) (is := [0, 1, 2, 3, 4, 5, 6, 7, 8]) C YX9_isLoft dX9_purse_2 tw_834 (c_X9_isLoft l G _ _ _ _ (by first | assumption | omega | exact zand_rng _ _ | exact zor_rng _ _ | exact zxor_rng _ _ | exact BT.r (IT.b (by assumption)) _ _) (by first | assumption | omega | exact zand_rng _ _ | exact zor_rng _ _ | exact zxor_rng _ _ | exact BT.r (IT.b (by assumption)) _ _)) 0 0 rfl rfl (ci := 9) rfl rfl rfl (by decide) rfl rfl (Nat.le_of_ble_eq_true rfl) ⟨rfl, rfl, by decide, by decide⟩ (jst_i (R_uall ..) ?_)
  refine r_ifb_eq (pc := 5) (tgt := 18) C dX9_purse_5 (by decide) (fun c5 => ?_) (fun c5 => ?_)
  · refine r_iconst (pc := 18) C dX9_purse_18 ?_
    refine r_istore_n (pc := 19) C 3 dX9_purse_19 rfl (Nat.le_of_ble_eq_true rfl) ?_
    refine r_iload_n (pc := 20) C 3 dX9_purse_20 rfl rfl ?_
    refine r_if_eq (pc := 21) (tgt := 30) C dX9_purse_21 (by decide) (by first | omega | exact zand_rng _ _ | exact zor_rng _ _ | exact zxor_rng _ _ | exact BT.r (IT.b (by assumption)) _ _) (fun c21 => absurd c21 (by omega)) (fun c21 => ?_)
    refine r_aload_n (pc := 24) C 0 dX9_purse_24 rfl rfl ?_
    refine r_iload_n (pc := 25) C 3 dX9_purse_25 rfl rfl ?_
    refine r_callV (pc := 26) (is := [0, 1, 2, 3, 4, 5, 6, 7, 8]) C YX9_refuse dX9_purse_26 tw_785 (c_X9_refuse l G _ _ _ _ (by first | assumption | omega | exact zand_rng _ _ | exact zor_rng _ _ | exact zxor_rng _ _ | exact BT.r (IT.b (by assumption)) _ _)) 0 0 rfl rfl (ci := 9) rfl rfl rfl (by decide) rfl rfl (Nat.le_of_ble_eq_true rfl) ⟨rfl, rfl, by decide, by decide⟩ (jst_i (R_uall ..) ?_)
    exact r_iret (pc := 29) C hQ dX9_purse_29 rfl (fin_noR (by unfold q_lo; (repeat (first | rw [if_pos (by omega)] | rw [if_neg (by omega)])); (try first | rfl | assumption | omega)) (by omega) rfl)
  · refine r_iload_n (pc := 8) C 2 dX9_purse_8 rfl rfl ?_
    refine r_iconst (pc := 9) C dX9_purse_9 ?_
    refine r_bipush (pc := 10) C dX9_purse_10 (by decide) ?_
    refine r_callS (pc := 12) (is := []) C YX9_within dX9_purse_12 tw_782 (c_X9_within l G _ _ _ (by first | assumption | omega | exact zand_rng _ _ | exact zor_rng _ _ | exact zxor_rng _ _ | exact BT.r (IT.b (by assumption)) _ _) (by first | assumption | omega | exact zand_rng _ _ | exact zor_rng _ _ | exact zxor_rng _ _ | exact BT.r (IT.b (by assumption)) _ _) (by first | assumption | omega | exact zand_rng _ _ | exact zor_rng _ _ | exact zxor_rng _ _ | exact BT.r (IT.b (by assumption)) _ _)) rfl (by decide) rfl rfl (Nat.le_of_ble_eq_true rfl) ⟨rfl, rfl, by decide, by decide⟩ (jst_i rfl ?_)
    have hs12 := sOut_r m 0 40 (by decide)
    refine r_goto (pc := 15) (tgt := 19) C dX9_purse_15 (by decide) ?_
    refine r_istore_n (pc := 19) C 3 dX9_purse_19 rfl (Nat.le_of_ble_eq_true rfl) ?_
    refine r_iload_n (pc := 20) C 3 dX9_purse_20 rfl rfl ?_
    refine r_if_eq (pc := 21) (tgt := 30) C dX9_purse_21 (by decide) (by first | omega | exact zand_rng _ _ | exact zor_rng _ _ | exact zxor_rng _ _ | exact BT.r (IT.b (by assumption)) _ _) (fun c21 => ?_) (fun c21 => ?_)
    · refine r_aload_n (pc := 30) C 0 dX9_purse_30 rfl rfl ?_
      refine r_callV (pc := 31) (is := [0, 1, 2, 3, 4, 5, 6, 7, 8]) C YX9_begins dX9_purse_31 tw_933 (c_X9_begins l G _ _ _) 0 0 rfl rfl (ci := 9) rfl rfl rfl (by decide) rfl rfl (Nat.le_of_ble_eq_true rfl) ⟨rfl, rfl, by decide, by decide⟩ (jst_v (R_uall ..) ?_)
      refine r_aload_n (pc := 34) C 0 dX9_purse_34 rfl rfl ?_
      refine r_iload_n (pc := 35) C 2 dX9_purse_35 rfl rfl ?_
      refine r_callV (pc := 36) (is := [0, 1, 2, 3, 4, 5, 6, 7, 8]) C YX9_goesFor dX9_purse_36 tw_937 (c_X9_goesFor l G _ _ _ _ (by first | assumption | omega | exact zand_rng _ _ | exact zor_rng _ _ | exact zxor_rng _ _ | exact BT.r (IT.b (by assumption)) _ _) (by first | assumption | omega | exact zand_rng _ _ | exact zor_rng _ _ | exact zxor_rng _ _ | exact BT.r (IT.b (by assumption)) _ _) (by first | assumption | omega | exact zand_rng _ _ | exact zor_rng _ _ | exact zxor_rng _ _ | exact BT.r (IT.b (by assumption)) _ _)) 0 0 rfl rfl (ci := 9) rfl rfl rfl (by decide) rfl rfl (Nat.le_of_ble_eq_true rfl) ⟨rfl, rfl, by decide, by decide⟩ (jst_v (R_uall ..) ?_)
      obtain ⟨hI2, -⟩ := sDusks_p hI (n := m) (by omega) (by omega)
      refine r_aload_n (pc := 39) C 0 dX9_purse_39 rfl rfl ?_
      refine r_iload_n (pc := 40) C 1 dX9_purse_40 rfl rfl ?_
      refine r_callV (pc := 41) (is := [0, 1, 2, 3, 4, 5, 6, 7, 8]) C YX9_purseOf dX9_purse_41 tw_838 (c_X9_purseOf l G _ _ _ _ (by first | assumption | omega | exact zand_rng _ _ | exact zor_rng _ _ | exact zxor_rng _ _ | exact BT.r (IT.b (by assumption)) _ _) (by first | assumption | omega | exact zand_rng _ _ | exact zor_rng _ _ | exact zxor_rng _ _ | exact BT.r (IT.b (by assumption)) _ _)) 0 0 rfl rfl (ci := 9) rfl rfl rfl (by decide) rfl rfl (Nat.le_of_ble_eq_true rfl) ⟨rfl, rfl, by decide, by decide⟩ (jst_i (R_uall ..) ?_)
      refine r_istore (pc := 44) C dX9_purse_44 (Nat.le_of_ble_eq_true rfl) ?_
      refine r_aload_n (pc := 46) C 0 dX9_purse_46 rfl rfl ?_
      refine r_callV (pc := 47) (is := [0, 1, 2, 3, 4, 5, 6, 7, 8]) C YX9_ends dX9_purse_47 tw_941 (c_X9_ends l G _ _ _ _ rfl) 0 0 rfl rfl (ci := 9) rfl rfl rfl (by decide) rfl rfl (Nat.le_of_ble_eq_true rfl) ⟨rfl, rfl, by decide, by decide⟩ (jst_v (R_uall ..) ?_)
      refine r_iload (pc := 50) C dX9_purse_50 rfl ?_
      exact r_iret (pc := 52) C hQ dX9_purse_52 rfl (fin_okR (by unfold q_lo; (repeat (first | rw [if_pos (by omega)] | rw [if_neg (by omega)])); (try first | rfl | assumption | omega)) (by first | rfl | omega) (by rfl))
    · refine r_aload_n (pc := 24) C 0 dX9_purse_24 rfl rfl ?_
      refine r_iload_n (pc := 25) C 3 dX9_purse_25 rfl rfl ?_
      refine r_callV (pc := 26) (is := [0, 1, 2, 3, 4, 5, 6, 7, 8]) C YX9_refuse dX9_purse_26 tw_785 (c_X9_refuse l G _ _ _ _ (by first | assumption | omega | exact zand_rng _ _ | exact zor_rng _ _ | exact zxor_rng _ _ | exact BT.r (IT.b (by assumption)) _ _)) 0 0 rfl rfl (ci := 9) rfl rfl rfl (by decide) rfl rfl (Nat.le_of_ble_eq_true rfl) ⟨rfl, rfl, by decide, by decide⟩ (jst_i (R_uall ..) ?_)
      exact r_iret (pc := 29) C hQ dX9_purse_29 rfl (fin_noR (by unfold q_lo; (repeat (first | rw [if_pos (by omega)] | rw [if_neg (by omega)])); (try first | rfl | assumption | omega)) (by omega) rfl)

set_option maxRecDepth 100000 in
set_option maxHeartbeats 4000000 in
theorem c_X9_letting (l : Launch) (G : GT) (b : Nat → Nat) (R T : Tn) (z : Int) (hI : IT T) (hR : IR R) (hk9 : T 0 4 ≤ 999) (gz : -2147483648 ≤ z ∧ z < 2147483648) : Cn l yX9_letting cX9_letting 4 (Option.some .int) ({ frames := 5, cells := 0, slots := 0, locals := 112 }) G [.ref (b 0), .int (iI z)] (wR G b R T) (aLett G b R T z) := by
  refine Cn_in RX9 [some (.ref (b 0)), some (.int (iI z)), none, none] (by decide +kernel) rfl rfl rfl (Nat.le_of_ble_eq_true rfl) (fun K C hQ => ?_)
  obtain ⟨r0, r1, r3, r6, r8⟩ := hR
  have hBB := hI.b
  have hLL := hI.L
  have hDD := hI.D
  have hkk := hI.k
  refine r_aload_n (pc := 0) C 0 dX9_letting_0 rfl rfl ?_
  refine r_iload_n (pc := 1) C 1 dX9_letting_1 rfl rfl ?_
  refine r_callV (pc := 2) (is := [0, 1, 2, 3, 4, 5, 6, 7, 8]) C YX9_isLoft dX9_letting_2 tw_834 (c_X9_isLoft l G _ _ _ _ (by first | assumption | omega | exact zand_rng _ _ | exact zor_rng _ _ | exact zxor_rng _ _ | exact BT.r (IT.b (by assumption)) _ _) (by first | assumption | omega | exact zand_rng _ _ | exact zor_rng _ _ | exact zxor_rng _ _ | exact BT.r (IT.b (by assumption)) _ _)) 0 0 rfl rfl (ci := 9) rfl rfl rfl (by decide) rfl rfl (Nat.le_of_ble_eq_true rfl) ⟨rfl, rfl, by decide, by decide⟩ (jst_i (R_uall ..) ?_)
  refine r_ifb_ne (pc := 5) (tgt := 17) C dX9_letting_5 (by decide) (fun c5 => ?_) (fun c5 => ?_)
  · refine r_aload_n (pc := 17) C 0 dX9_letting_17 rfl rfl ?_
    refine r_callV (pc := 18) (is := [0, 1, 2, 3, 4, 5, 6, 7, 8]) C YX9_begins dX9_letting_18 tw_933 (c_X9_begins l G _ _ _) 0 0 rfl rfl (ci := 9) rfl rfl rfl (by decide) rfl rfl (Nat.le_of_ble_eq_true rfl) ⟨rfl, rfl, by decide, by decide⟩ (jst_v (R_uall ..) ?_)
    refine r_aload_n (pc := 21) C 0 dX9_letting_21 rfl rfl ?_
    refine r_iload_n (pc := 22) C 1 dX9_letting_22 rfl rfl ?_
    refine r_callV (pc := 23) (is := [0, 1, 2, 3, 4, 5, 6, 7, 8]) C YX9_purseOf dX9_letting_23 tw_838 (c_X9_purseOf l G _ _ _ _ (by first | assumption | omega | exact zand_rng _ _ | exact zor_rng _ _ | exact zxor_rng _ _ | exact BT.r (IT.b (by assumption)) _ _) (by first | assumption | omega | exact zand_rng _ _ | exact zor_rng _ _ | exact zxor_rng _ _ | exact BT.r (IT.b (by assumption)) _ _)) 0 0 rfl rfl (ci := 9) rfl rfl rfl (by decide) rfl rfl (Nat.le_of_ble_eq_true rfl) ⟨rfl, rfl, by decide, by decide⟩ (jst_i (R_uall ..) ?_)
    refine r_istore_n (pc := 26) C 2 dX9_letting_26 rfl (Nat.le_of_ble_eq_true rfl) ?_
    refine r_iconst (pc := 27) C dX9_letting_27 ?_
    refine r_istore_n (pc := 28) C 3 dX9_letting_28 rfl (Nat.le_of_ble_eq_true rfl) ?_
    have L29 : ∀ (n : Nat) (i : Int), 0 ≤ i → i ≤ T 0 1 → T 0 1 < i + n → Wc K G 29 [some (.ref (b 0)), some (.int (iI z)), some (.int (iI (sPurse T z (T 0 1)))), some (.int (iI i))] [] (wR G b (up1 R 5 (flat T)) (sLet T i)) := by
      intro n
      induction n with
      | zero =>
        intro i h0 h1 hn; omega
      | succ n ih =>
        intro i h0 h1 hn 
        obtain ⟨hU, hU2⟩ := sLet_p hI h0 h1
        have e1 : sLet T i 0 1 = T 0 1 := by rw [hU2 0 (by decide)]
        refine r_iload_n (pc := 29) C 3 dX9_letting_29 rfl rfl ?_
        refine r_aload_n (pc := 30) C 0 dX9_letting_30 rfl rfl ?_
        refine r_get (pc := 31) C 0 0 1 dX9_letting_31 in_X9 rfl rfl (ci := 9) rfl (by decide) tw_742 rfl rfl ?_
        refine r_iconst (pc := 34) C dX9_letting_34 ?_
        refine r_ialoadE (pc := 35) C 2 0 dX9_letting_35 rfl rfl (by decide) (by omega) (show flat (sLet T i) 1 = T 0 1 from by rw [flat_0 _ (by decide), e1]) ?_
        refine r_icmp_ge (pc := 36) (tgt := 52) C dX9_letting_36 (by decide) (by first | omega | exact zand_rng _ _ | exact zor_rng _ _ | exact zxor_rng _ _ | exact BT.r (IT.b (by assumption)) _ _) (by first | omega | exact zand_rng _ _ | exact zor_rng _ _ | exact zxor_rng _ _ | exact BT.r (IT.b (by assumption)) _ _) (fun c36 => ?_) (fun c36 => ?_)
        · obtain rfl : i = T 0 1 := by omega
          refine r_aload_n (pc := 52) C 0 dX9_letting_52 rfl rfl ?_
          refine r_iload_n (pc := 53) C 1 dX9_letting_53 rfl rfl ?_
          refine r_callV (pc := 54) (is := [0, 1, 2, 3, 4, 5, 6, 7, 8]) C YX9_purseOf dX9_letting_54 tw_838 (c_X9_purseOf l G _ _ _ _ (by first | assumption | omega | exact zand_rng _ _ | exact zor_rng _ _ | exact zxor_rng _ _ | exact BT.r (IT.b (by assumption)) _ _) (by first | assumption | omega | exact zand_rng _ _ | exact zor_rng _ _ | exact zxor_rng _ _ | exact BT.r (IT.b (by assumption)) _ _)) 0 0 rfl rfl (ci := 9) rfl rfl rfl (by decide) rfl rfl (Nat.le_of_ble_eq_true rfl) ⟨rfl, rfl, by decide, by decide⟩ (jst_i (R_uall ..) ?_)
          refine r_iload_n (pc := 57) C 2 dX9_letting_57 rfl rfl ?_
          refine r_isub (pc := 58) C dX9_letting_58 ?_
          refine r_istore_n (pc := 59) C 3 dX9_letting_59 rfl (Nat.le_of_ble_eq_true rfl) ?_
          refine r_aload_n (pc := 60) C 0 dX9_letting_60 rfl rfl ?_
          refine r_callV (pc := 61) (is := [0, 1, 2, 3, 4, 5, 6, 7, 8]) C YX9_ends dX9_letting_61 tw_941 (c_X9_ends l G _ _ _ _ rfl) 0 0 rfl rfl (ci := 9) rfl rfl rfl (by decide) rfl rfl (Nat.le_of_ble_eq_true rfl) ⟨rfl, rfl, by decide, by decide⟩ (jst_v (R_uall ..) ?_)
          refine r_iload_n (pc := 64) C 3 dX9_letting_64 rfl rfl ?_
          exact r_iret (pc := 65) C hQ dX9_letting_65 rfl (by unfold aLett; rw [if_pos c5]; exact ⟨by rw [show sLet T (T 0 1) 0 1 = T 0 1 from e1], rfl⟩)
        · refine r_aload_n (pc := 39) C 0 dX9_letting_39 rfl rfl ?_
          refine r_iload_n (pc := 40) C 3 dX9_letting_40 rfl rfl ?_
          refine r_bipush (pc := 41) C dX9_letting_41 (by decide) ?_
          refine r_callV (pc := 43) (is := [0, 1, 2, 3, 4, 5, 6, 7, 8]) C YX9_goesHome dX9_letting_43 tw_905 (c_X9_goesHome l G _ _ _ _ _ (by first | assumption | omega | exact zand_rng _ _ | exact zor_rng _ _ | exact zxor_rng _ _ | exact BT.r (IT.b (by assumption)) _ _) (by first | assumption | omega | exact zand_rng _ _ | exact zor_rng _ _ | exact zxor_rng _ _ | exact BT.r (IT.b (by assumption)) _ _) (by first | assumption | omega | exact zand_rng _ _ | exact zor_rng _ _ | exact zxor_rng _ _ | exact BT.r (IT.b (by assumption)) _ _)) 0 0 rfl rfl (ci := 9) rfl rfl rfl (by decide) rfl rfl (Nat.le_of_ble_eq_true rfl) ⟨rfl, rfl, by decide, by decide⟩ (jst_v (R_uall ..) ?_)
          refine r_iinc (pc := 46) C dX9_letting_46 rfl ?_
          refine r_goto (pc := 49) (tgt := 29) C dX9_letting_49 (by decide) ?_
          refine Wc.to (ih (i + 1) (by omega) (by omega) (by omega) ) rfl (lsub_s rfl (lsub_s rfl (lsub_s rfl (lsub_s rfl lsub_0)))) (by rw [sLet_s T h0])
    refine Wc.to (L29 ((T 0 1 - (0)).toNat + 1) (0) (by omega) (by omega) (by omega) ) rfl (lsub_s rfl (lsub_s rfl (lsub_s rfl (lsub_s rfl lsub_0)))) (by rfl)
  · refine r_ldc (pc := 8) C dX9_letting_8 (n := 1000000000) tw_949 (by decide) ?_
    refine r_aload_n (pc := 10) C 0 dX9_letting_10 rfl rfl ?_
    refine r_iconst (pc := 11) C dX9_letting_11 ?_
    refine r_callV (pc := 12) (is := [0, 1, 2, 3, 4, 5, 6, 7, 8]) C YX9_refuse dX9_letting_12 tw_785 (c_X9_refuse l G _ _ _ _ (by first | assumption | omega | exact zand_rng _ _ | exact zor_rng _ _ | exact zxor_rng _ _ | exact BT.r (IT.b (by assumption)) _ _)) 0 0 rfl rfl (ci := 9) rfl rfl rfl (by decide) rfl rfl (Nat.le_of_ble_eq_true rfl) ⟨rfl, rfl, by decide, by decide⟩ (jst_i (R_uall ..) ?_)
    refine r_isub (pc := 15) C dX9_letting_15 ?_
    exact r_iret (pc := 16) C hQ dX9_letting_16 rfl (by unfold aLett; rw [if_neg c5]; exact ⟨rfl, rfl⟩)

set_option maxRecDepth 100000 in
set_option maxHeartbeats 4000000 in
theorem c_X9_run (l : Launch) (G : GT) (b : Nat → Nat) (R T : Tn) (z m : Int) (hI : IT T) (hR : IR R) (hk9 : T 0 4 ≤ 999) (gz : -2147483648 ≤ z ∧ z < 2147483648) (gm : -2147483648 ≤ m ∧ m < 2147483648) : Cn l yX9_run cX9_run 6 (Option.some .int) ({ frames := 6, cells := 0, slots := 0, locals := 134 }) G [.ref (b 0), .int (iI z), .int (iI m)] (wR G b R T) (jst (some (.int (iI (zans (q_lo T z m 0 999) (v_run T z m))))) (wR G b (zif (q_lo T z m 0 999) (up1 R 5 (flat T)) (rfs R (q_lo T z m 0 999))) (zif (q_lo T z m 0 999) (T) T))) := by
  refine Cn_in RX9 [some (.ref (b 0)), some (.int (iI z)), some (.int (iI m)), none, none, none] (by decide +kernel) rfl rfl rfl (Nat.le_of_ble_eq_true rfl) (fun K C hQ => ?_)
  obtain ⟨r0, r1, r3, r6, r8⟩ := hR
  have hBB := hI.b
  have hLL := hI.L
  have hDD := hI.D
  have hkk := hI.k
  refine r_aload_n (pc := 0) C 0 dX9_run_0 rfl rfl ?_
  refine r_iload_n (pc := 1) C 1 dX9_run_1 rfl rfl ?_
  refine r_callV (pc := 2) (is := [0, 1, 2, 3, 4, 5, 6, 7, 8]) C YX9_isLoft dX9_run_2 tw_834 (c_X9_isLoft l G _ _ _ _ (by first | assumption | omega | exact zand_rng _ _ | exact zor_rng _ _ | exact zxor_rng _ _ | exact BT.r (IT.b (by assumption)) _ _) (by first | assumption | omega | exact zand_rng _ _ | exact zor_rng _ _ | exact zxor_rng _ _ | exact BT.r (IT.b (by assumption)) _ _)) 0 0 rfl rfl (ci := 9) rfl rfl rfl (by decide) rfl rfl (Nat.le_of_ble_eq_true rfl) ⟨rfl, rfl, by decide, by decide⟩ (jst_i (R_uall ..) ?_)
  refine r_ifb_eq (pc := 5) (tgt := 19) C dX9_run_5 (by decide) (fun c5 => ?_) (fun c5 => ?_)
  · refine r_iconst (pc := 19) C dX9_run_19 ?_
    refine r_istore_n (pc := 20) C 3 dX9_run_20 rfl (Nat.le_of_ble_eq_true rfl) ?_
    refine r_iload_n (pc := 21) C 3 dX9_run_21 rfl rfl ?_
    refine r_if_eq (pc := 22) (tgt := 31) C dX9_run_22 (by decide) (by first | omega | exact zand_rng _ _ | exact zor_rng _ _ | exact zxor_rng _ _ | exact BT.r (IT.b (by assumption)) _ _) (fun c22 => absurd c22 (by omega)) (fun c22 => ?_)
    refine r_aload_n (pc := 25) C 0 dX9_run_25 rfl rfl ?_
    refine r_iload_n (pc := 26) C 3 dX9_run_26 rfl rfl ?_
    refine r_callV (pc := 27) (is := [0, 1, 2, 3, 4, 5, 6, 7, 8]) C YX9_refuse dX9_run_27 tw_785 (c_X9_refuse l G _ _ _ _ (by first | assumption | omega | exact zand_rng _ _ | exact zor_rng _ _ | exact zxor_rng _ _ | exact BT.r (IT.b (by assumption)) _ _)) 0 0 rfl rfl (ci := 9) rfl rfl rfl (by decide) rfl rfl (Nat.le_of_ble_eq_true rfl) ⟨rfl, rfl, by decide, by decide⟩ (jst_i (R_uall ..) ?_)
    exact r_iret (pc := 30) C hQ dX9_run_30 rfl (fin_noR (by unfold q_lo; (repeat (first | rw [if_pos (by omega)] | rw [if_neg (by omega)])); (try first | rfl | assumption | omega)) (by omega) rfl)
  · refine r_iload_n (pc := 8) C 2 dX9_run_8 rfl rfl ?_
    refine r_iconst (pc := 9) C dX9_run_9 ?_
    refine r_sipush (pc := 10) C dX9_run_10 (by decide) ?_
    refine r_callS (pc := 13) (is := []) C YX9_within dX9_run_13 tw_782 (c_X9_within l G _ _ _ (by first | assumption | omega | exact zand_rng _ _ | exact zor_rng _ _ | exact zxor_rng _ _ | exact BT.r (IT.b (by assumption)) _ _) (by first | assumption | omega | exact zand_rng _ _ | exact zor_rng _ _ | exact zxor_rng _ _ | exact BT.r (IT.b (by assumption)) _ _) (by first | assumption | omega | exact zand_rng _ _ | exact zor_rng _ _ | exact zxor_rng _ _ | exact BT.r (IT.b (by assumption)) _ _)) rfl (by decide) rfl rfl (Nat.le_of_ble_eq_true rfl) ⟨rfl, rfl, by decide, by decide⟩ (jst_i rfl ?_)
    have hs13 := sOut_r m 0 999 (by decide)
    refine r_goto (pc := 16) (tgt := 20) C dX9_run_16 (by decide) ?_
    refine r_istore_n (pc := 20) C 3 dX9_run_20 rfl (Nat.le_of_ble_eq_true rfl) ?_
    refine r_iload_n (pc := 21) C 3 dX9_run_21 rfl rfl ?_
    refine r_if_eq (pc := 22) (tgt := 31) C dX9_run_22 (by decide) (by first | omega | exact zand_rng _ _ | exact zor_rng _ _ | exact zxor_rng _ _ | exact BT.r (IT.b (by assumption)) _ _) (fun c22 => ?_) (fun c22 => ?_)
    · refine r_aload_n (pc := 31) C 0 dX9_run_31 rfl rfl ?_
      refine r_callV (pc := 32) (is := [0, 1, 2, 3, 4, 5, 6, 7, 8]) C YX9_begins dX9_run_32 tw_933 (c_X9_begins l G _ _ _) 0 0 rfl rfl (ci := 9) rfl rfl rfl (by decide) rfl rfl (Nat.le_of_ble_eq_true rfl) ⟨rfl, rfl, by decide, by decide⟩ (jst_v (R_uall ..) ?_)
      refine r_bipush (pc := 35) C dX9_run_35 (by decide) ?_
      refine r_istore (pc := 37) C dX9_run_37 (Nat.le_of_ble_eq_true rfl) ?_
      refine r_iconst (pc := 39) C dX9_run_39 ?_
      refine r_istore (pc := 40) C dX9_run_40 (Nat.le_of_ble_eq_true rfl) ?_
      have L42 : ∀ (n : Nat) (i : Int), 0 ≤ i → i ≤ 41 → 41 < i + n → Wc K G 42 [some (.ref (b 0)), some (.int (iI z)), some (.int (iI m)), none, some (.int (iI (sFind (fun n => sPur T z n < m) i))), some (.int (iI i))] [] (wR G b (up1 R 5 (flat T)) (sDusks T i)) := by
        intro n
        induction n with
        | zero =>
          intro i h0 h1 hn; omega
        | succ n ih =>
          intro i h0 h1 hn
          obtain ⟨hU, hUD, hU0, -, -, hU4, -⟩ := sDusks_p hI h0 (by omega)
          have hf := sFind_r (fun n => sPur T z n < m) h0
          have hp := sPurse_r hU z hU.D.1 (Int.le_refl _)
          have hpq : sPur T z i = sPurse (sDusks T i) z (sDusks T i 0 1) := rfl
          have hst := sFind_st (fun n => sPur T z n < m) (i := i) (j := 41) h0
          refine r_iload (pc := 42) C dX9_run_42 rfl ?_
          refine r_bipush (pc := 44) C dX9_run_44 (by decide) ?_
          refine r_icmp_gt (pc := 46) (tgt := 82) C dX9_run_46 (by decide) (by first | omega | exact zand_rng _ _ | exact zor_rng _ _ | exact zxor_rng _ _ | exact BT.r (IT.b (by assumption)) _ _) (by first | omega | exact zand_rng _ _ | exact zor_rng _ _ | exact zxor_rng _ _ | exact BT.r (IT.b (by assumption)) _ _) (fun c46 => ?_) (fun c46 => ?_)
          · refine r_aload_n (pc := 82) C 0 dX9_run_82 rfl rfl ?_
            refine r_callV (pc := 83) (is := [0, 1, 2, 3, 4, 5, 6, 7, 8]) C YX9_ends dX9_run_83 tw_941 (c_X9_ends l G _ _ _ _ rfl) 0 0 rfl rfl (ci := 9) rfl rfl rfl (by decide) rfl rfl (Nat.le_of_ble_eq_true rfl) ⟨rfl, rfl, by decide, by decide⟩ (jst_v (R_uall ..) ?_)
            refine r_iload (pc := 86) C dX9_run_86 rfl ?_
            exact r_iret (pc := 88) C hQ dX9_run_88 rfl (fin_okR (by unfold q_lo; (repeat (first | rw [if_pos (by omega)] | rw [if_neg (by omega)])); (try first | rfl | assumption | omega)) (by unfold v_run; first | rw [hst (by omega) h1] | rw [show (41 : Int) = i by omega]) (by rfl))
          · refine r_iload (pc := 49) C dX9_run_49 rfl ?_
            refine r_if_ge (pc := 51) (tgt := 82) C dX9_run_51 (by decide) (by first | omega | exact zand_rng _ _ | exact zor_rng _ _ | exact zxor_rng _ _ | exact BT.r (IT.b (by assumption)) _ _) (fun c51 => ?_) (fun c51 => ?_)
            · refine r_aload_n (pc := 82) C 0 dX9_run_82 rfl rfl ?_
              refine r_callV (pc := 83) (is := [0, 1, 2, 3, 4, 5, 6, 7, 8]) C YX9_ends dX9_run_83 tw_941 (c_X9_ends l G _ _ _ _ rfl) 0 0 rfl rfl (ci := 9) rfl rfl rfl (by decide) rfl rfl (Nat.le_of_ble_eq_true rfl) ⟨rfl, rfl, by decide, by decide⟩ (jst_v (R_uall ..) ?_)
              refine r_iload (pc := 86) C dX9_run_86 rfl ?_
              exact r_iret (pc := 88) C hQ dX9_run_88 rfl (fin_okR (by unfold q_lo; (repeat (first | rw [if_pos (by omega)] | rw [if_neg (by omega)])); (try first | rfl | assumption | omega)) (by unfold v_run; first | rw [hst (by omega) h1] | rw [show (41 : Int) = i by omega]) (by rfl))
            · refine r_aload_n (pc := 54) C 0 dX9_run_54 rfl rfl ?_
              refine r_iload_n (pc := 55) C 1 dX9_run_55 rfl rfl ?_
              refine r_callV (pc := 56) (is := [0, 1, 2, 3, 4, 5, 6, 7, 8]) C YX9_purseOf dX9_run_56 tw_838 (c_X9_purseOf l G _ _ _ _ (by first | assumption | omega | exact zand_rng _ _ | exact zor_rng _ _ | exact zxor_rng _ _ | exact BT.r (IT.b (by assumption)) _ _) (by first | assumption | omega | exact zand_rng _ _ | exact zor_rng _ _ | exact zxor_rng _ _ | exact BT.r (IT.b (by assumption)) _ _)) 0 0 rfl rfl (ci := 9) rfl rfl rfl (by decide) rfl rfl (Nat.le_of_ble_eq_true rfl) ⟨rfl, rfl, by decide, by decide⟩ (jst_i (R_uall ..) ?_)
              refine r_iload_n (pc := 59) C 2 dX9_run_59 rfl rfl ?_
              refine r_icmp_ge (pc := 60) (tgt := 68) C dX9_run_60 (by decide) (by first | omega | exact zand_rng _ _ | exact zor_rng _ _ | exact zxor_rng _ _ | exact BT.r (IT.b (by assumption)) _ _) (by first | omega | exact zand_rng _ _ | exact zor_rng _ _ | exact zxor_rng _ _ | exact BT.r (IT.b (by assumption)) _ _) (fun c60 => ?_) (fun c60 => ?_)
              · refine r_bipush (pc := 68) C dX9_run_68 (by decide) ?_
                refine r_istore (pc := 70) C dX9_run_70 (Nat.le_of_ble_eq_true rfl) ?_
                refine r_aload_n (pc := 72) C 0 dX9_run_72 rfl rfl ?_
                refine r_callV (pc := 73) (is := [0, 1, 2, 3, 4, 5, 6, 7, 8]) C YX9_goes dX9_run_73 tw_917 (c_X9_goes l G _ _ _ (by first | assumption | omega | exact zand_rng _ _ | exact zor_rng _ _ | exact zxor_rng _ _ | exact BT.r (IT.b (by assumption)) _ _) (by first | assumption | omega | exact zand_rng _ _ | exact zor_rng _ _ | exact zxor_rng _ _ | exact BT.r (IT.b (by assumption)) _ _)) 0 0 rfl rfl (ci := 9) rfl rfl rfl (by decide) rfl rfl (Nat.le_of_ble_eq_true rfl) ⟨rfl, rfl, by decide, by decide⟩ (jst_v (R_uall ..) ?_)
                refine r_iinc (pc := 76) C dX9_run_76 rfl ?_
                refine r_goto (pc := 79) (tgt := 42) C dX9_run_79 (by decide) ?_
                refine Wc.to (ih (i + 1) (by omega) (by omega) (by omega)) rfl (lsub_s rfl (lsub_s rfl (lsub_s rfl (lsub_n (lsub_s (by rw [sFind_s _ h0]; first | rw [if_pos (by omega)] | rw [if_neg (by omega), show sFind (fun n => sPur T z n < m) i = -9 from by omega]) (lsub_s rfl lsub_0)))))) (by rw [sDusks_s T h0])
              · refine r_iload (pc := 63) C dX9_run_63 rfl ?_
                refine r_goto (pc := 65) (tgt := 70) C dX9_run_65 (by decide) ?_
                refine r_istore (pc := 70) C dX9_run_70 (Nat.le_of_ble_eq_true rfl) ?_
                refine r_aload_n (pc := 72) C 0 dX9_run_72 rfl rfl ?_
                refine r_callV (pc := 73) (is := [0, 1, 2, 3, 4, 5, 6, 7, 8]) C YX9_goes dX9_run_73 tw_917 (c_X9_goes l G _ _ _ (by first | assumption | omega | exact zand_rng _ _ | exact zor_rng _ _ | exact zxor_rng _ _ | exact BT.r (IT.b (by assumption)) _ _) (by first | assumption | omega | exact zand_rng _ _ | exact zor_rng _ _ | exact zxor_rng _ _ | exact BT.r (IT.b (by assumption)) _ _)) 0 0 rfl rfl (ci := 9) rfl rfl rfl (by decide) rfl rfl (Nat.le_of_ble_eq_true rfl) ⟨rfl, rfl, by decide, by decide⟩ (jst_v (R_uall ..) ?_)
                refine r_iinc (pc := 76) C dX9_run_76 rfl ?_
                refine r_goto (pc := 79) (tgt := 42) C dX9_run_79 (by decide) ?_
                refine Wc.to (ih (i + 1) (by omega) (by omega) (by omega)) rfl (lsub_s rfl (lsub_s rfl (lsub_s rfl (lsub_n (lsub_s (by rw [sFind_s _ h0]; first | rw [if_pos (by omega)] | rw [if_neg (by omega), show sFind (fun n => sPur T z n < m) i = -9 from by omega]) (lsub_s rfl lsub_0)))))) (by rw [sDusks_s T h0])
      refine Wc.to (L42 42 0 (by omega) (by omega) (by omega)) rfl (lsub_s rfl (lsub_s rfl (lsub_s rfl (lsub_n (lsub_s rfl (lsub_s rfl lsub_0)))))) rfl
    · refine r_aload_n (pc := 25) C 0 dX9_run_25 rfl rfl ?_
      refine r_iload_n (pc := 26) C 3 dX9_run_26 rfl rfl ?_
      refine r_callV (pc := 27) (is := [0, 1, 2, 3, 4, 5, 6, 7, 8]) C YX9_refuse dX9_run_27 tw_785 (c_X9_refuse l G _ _ _ _ (by first | assumption | omega | exact zand_rng _ _ | exact zor_rng _ _ | exact zxor_rng _ _ | exact BT.r (IT.b (by assumption)) _ _)) 0 0 rfl rfl (ci := 9) rfl rfl rfl (by decide) rfl rfl (Nat.le_of_ble_eq_true rfl) ⟨rfl, rfl, by decide, by decide⟩ (jst_i (R_uall ..) ?_)
      exact r_iret (pc := 30) C hQ dX9_run_30 rfl (fin_noR (by unfold q_lo; (repeat (first | rw [if_pos (by omega)] | rw [if_neg (by omega)])); (try first | rfl | assumption | omega)) (by omega) rfl)

set_option maxRecDepth 100000 in
set_option maxHeartbeats 4000000 in
theorem c_X9_homing (l : Launch) (G : GT) (b : Nat → Nat) (R T : Tn) (d : Int) (hI : IT T) (hR : IR R) (hk9 : T 0 4 ≤ 999) (gd : -2147483648 ≤ d ∧ d < 2147483648) : Cn l yX9_homing cX9_homing 4 (Option.some .int) ({ frames := 6, cells := 0, slots := 0, locals := 134 }) G [.ref (b 0), .int (iI d)] (wR G b R T) (jst (some (.int (iI (zans (q_dov T d) (v_homing T d))))) (wR G b (zif (q_dov T d) (up1 R 5 (flat T)) (rfs R (q_dov T d))) (zif (q_dov T d) (T) T))) := by
  refine Cn_in RX9 [some (.ref (b 0)), some (.int (iI d)), none, none] (by decide +kernel) rfl rfl rfl (Nat.le_of_ble_eq_true rfl) (fun K C hQ => ?_)
  obtain ⟨r0, r1, r3, r6, r8⟩ := hR
  have hBB := hI.b
  have hLL := hI.L
  have hDD := hI.D
  have hkk := hI.k
  refine r_aload_n (pc := 0) C 0 dX9_homing_0 rfl rfl ?_
  refine r_iload_n (pc := 1) C 1 dX9_homing_1 rfl rfl ?_
  refine r_callV (pc := 2) (is := [0, 1, 2, 3, 4, 5, 6, 7, 8]) C YX9_isDove dX9_homing_2 tw_862 (c_X9_isDove l G _ _ _ _ (by first | assumption | omega | exact zand_rng _ _ | exact zor_rng _ _ | exact zxor_rng _ _ | exact BT.r (IT.b (by assumption)) _ _) (by first | assumption | omega | exact zand_rng _ _ | exact zor_rng _ _ | exact zxor_rng _ _ | exact BT.r (IT.b (by assumption)) _ _)) 0 0 rfl rfl (ci := 9) rfl rfl rfl (by decide) rfl rfl (Nat.le_of_ble_eq_true rfl) ⟨rfl, rfl, by decide, by decide⟩ (jst_i (R_uall ..) ?_)
  refine r_ifb_ne (pc := 5) (tgt := 14) C dX9_homing_5 (by decide) (fun c5 => ?_) (fun c5 => ?_)
  · refine r_aload_n (pc := 14) C 0 dX9_homing_14 rfl rfl ?_
    refine r_callV (pc := 15) (is := [0, 1, 2, 3, 4, 5, 6, 7, 8]) C YX9_begins dX9_homing_15 tw_933 (c_X9_begins l G _ _ _) 0 0 rfl rfl (ci := 9) rfl rfl rfl (by decide) rfl rfl (Nat.le_of_ble_eq_true rfl) ⟨rfl, rfl, by decide, by decide⟩ (jst_v (R_uall ..) ?_)
    refine r_bipush (pc := 18) C dX9_homing_18 (by decide) ?_
    refine r_istore_n (pc := 20) C 2 dX9_homing_20 rfl (Nat.le_of_ble_eq_true rfl) ?_
    refine r_iconst (pc := 21) C dX9_homing_21 ?_
    refine r_istore_n (pc := 22) C 3 dX9_homing_22 rfl (Nat.le_of_ble_eq_true rfl) ?_
    have L23 : ∀ (n : Nat) (i : Int), 0 ≤ i → i ≤ 41 → 41 < i + n → Wc K G 23 [some (.ref (b 0)), some (.int (iI d)), some (.int (iI (sFind (fun n => sDusks T n 6 d = sDusks T n 4 d) i))), some (.int (iI i))] [] (wR G b (up1 R 5 (flat T)) (sDusks T i)) := by
      intro n
      induction n with
      | zero =>
        intro i h0 h1 hn; omega
      | succ n ih =>
        intro i h0 h1 hn
        obtain ⟨hU, hUD, hU0, -, -, hU4, -⟩ := sDusks_p hI h0 (by omega)
        have hf := sFind_r (fun n => sDusks T n 6 d = sDusks T n 4 d) h0
        have hst := sFind_st (fun n => sDusks T n 6 d = sDusks T n 4 d) (i := i) (j := 41) h0
        refine r_iload_n (pc := 23) C 3 dX9_homing_23 rfl rfl ?_
        refine r_bipush (pc := 24) C dX9_homing_24 (by decide) ?_
        refine r_icmp_gt (pc := 26) (tgt := 65) C dX9_homing_26 (by decide) (by first | omega | exact zand_rng _ _ | exact zor_rng _ _ | exact zxor_rng _ _ | exact BT.r (IT.b (by assumption)) _ _) (by first | omega | exact zand_rng _ _ | exact zor_rng _ _ | exact zxor_rng _ _ | exact BT.r (IT.b (by assumption)) _ _) (fun c26 => ?_) (fun c26 => ?_)
        · refine r_aload_n (pc := 65) C 0 dX9_homing_65 rfl rfl ?_
          refine r_callV (pc := 66) (is := [0, 1, 2, 3, 4, 5, 6, 7, 8]) C YX9_ends dX9_homing_66 tw_941 (c_X9_ends l G _ _ _ _ rfl) 0 0 rfl rfl (ci := 9) rfl rfl rfl (by decide) rfl rfl (Nat.le_of_ble_eq_true rfl) ⟨rfl, rfl, by decide, by decide⟩ (jst_v (R_uall ..) ?_)
          refine r_iload_n (pc := 69) C 2 dX9_homing_69 rfl rfl ?_
          exact r_iret (pc := 70) C hQ dX9_homing_70 rfl (fin_okR (by unfold q_dov; (repeat (first | rw [if_pos (by omega)] | rw [if_neg (by omega)])); (try first | rfl | assumption | omega)) (by unfold v_homing; first | rw [hst (by omega) h1] | rw [show (41 : Int) = i by omega]) (by rfl))
        · refine r_iload_n (pc := 29) C 2 dX9_homing_29 rfl rfl ?_
          refine r_if_ge (pc := 30) (tgt := 65) C dX9_homing_30 (by decide) (by first | omega | exact zand_rng _ _ | exact zor_rng _ _ | exact zxor_rng _ _ | exact BT.r (IT.b (by assumption)) _ _) (fun c30 => ?_) (fun c30 => ?_)
          · refine r_aload_n (pc := 65) C 0 dX9_homing_65 rfl rfl ?_
            refine r_callV (pc := 66) (is := [0, 1, 2, 3, 4, 5, 6, 7, 8]) C YX9_ends dX9_homing_66 tw_941 (c_X9_ends l G _ _ _ _ rfl) 0 0 rfl rfl (ci := 9) rfl rfl rfl (by decide) rfl rfl (Nat.le_of_ble_eq_true rfl) ⟨rfl, rfl, by decide, by decide⟩ (jst_v (R_uall ..) ?_)
            refine r_iload_n (pc := 69) C 2 dX9_homing_69 rfl rfl ?_
            exact r_iret (pc := 70) C hQ dX9_homing_70 rfl (fin_okR (by unfold q_dov; (repeat (first | rw [if_pos (by omega)] | rw [if_neg (by omega)])); (try first | rfl | assumption | omega)) (by unfold v_homing; first | rw [hst (by omega) h1] | rw [show (41 : Int) = i by omega]) (by rfl))
          · refine r_aload_n (pc := 33) C 0 dX9_homing_33 rfl rfl ?_
            refine r_iload_n (pc := 34) C 1 dX9_homing_34 rfl rfl ?_
            refine r_iconst (pc := 35) C dX9_homing_35 ?_
            refine r_callV (pc := 36) (is := [0, 1, 2, 3, 4, 5, 6, 7, 8]) C YX9_get dX9_homing_36 tw_842 (c_X9_get3 l G _ _ _ _ (by first | assumption | omega | exact zand_rng _ _ | exact zor_rng _ _ | exact zxor_rng _ _ | exact BT.r (IT.b (by assumption)) _ _)) 0 0 rfl rfl (ci := 9) rfl rfl rfl (by decide) rfl rfl (Nat.le_of_ble_eq_true rfl) ⟨rfl, rfl, by decide, by decide⟩ (jst_i (R_uall ..) ?_)
            refine r_aload_n (pc := 39) C 0 dX9_homing_39 rfl rfl ?_
            refine r_iload_n (pc := 40) C 1 dX9_homing_40 rfl rfl ?_
            refine r_iconst (pc := 41) C dX9_homing_41 ?_
            refine r_callV (pc := 42) (is := [0, 1, 2, 3, 4, 5, 6, 7, 8]) C YX9_get dX9_homing_42 tw_842 (c_X9_get1 l G _ _ _ _ (by first | assumption | omega | exact zand_rng _ _ | exact zor_rng _ _ | exact zxor_rng _ _ | exact BT.r (IT.b (by assumption)) _ _)) 0 0 rfl rfl (ci := 9) rfl rfl rfl (by decide) rfl rfl (Nat.le_of_ble_eq_true rfl) ⟨rfl, rfl, by decide, by decide⟩ (jst_i (R_uall ..) ?_)
            refine r_icmp_ne (pc := 45) (tgt := 52) C dX9_homing_45 (by decide) (by first | omega | exact zand_rng _ _ | exact zor_rng _ _ | exact zxor_rng _ _ | exact BT.r (IT.b (by assumption)) _ _) (by first | omega | exact zand_rng _ _ | exact zor_rng _ _ | exact zxor_rng _ _ | exact BT.r (IT.b (by assumption)) _ _) (fun c45 => ?_) (fun c45 => ?_)
            · refine r_bipush (pc := 52) C dX9_homing_52 (by decide) ?_
              refine r_istore_n (pc := 54) C 2 dX9_homing_54 rfl (Nat.le_of_ble_eq_true rfl) ?_
              refine r_aload_n (pc := 55) C 0 dX9_homing_55 rfl rfl ?_
              refine r_callV (pc := 56) (is := [0, 1, 2, 3, 4, 5, 6, 7, 8]) C YX9_goes dX9_homing_56 tw_917 (c_X9_goes l G _ _ _ (by first | assumption | omega | exact zand_rng _ _ | exact zor_rng _ _ | exact zxor_rng _ _ | exact BT.r (IT.b (by assumption)) _ _) (by first | assumption | omega | exact zand_rng _ _ | exact zor_rng _ _ | exact zxor_rng _ _ | exact BT.r (IT.b (by assumption)) _ _)) 0 0 rfl rfl (ci := 9) rfl rfl rfl (by decide) rfl rfl (Nat.le_of_ble_eq_true rfl) ⟨rfl, rfl, by decide, by decide⟩ (jst_v (R_uall ..) ?_)
              refine r_iinc (pc := 59) C dX9_homing_59 rfl ?_
              refine r_goto (pc := 62) (tgt := 23) C dX9_homing_62 (by decide) ?_
              refine Wc.to (ih (i + 1) (by omega) (by omega) (by omega)) rfl (lsub_s rfl (lsub_s rfl (lsub_s (by rw [sFind_s _ h0]; first | rw [if_pos (by omega)] | rw [if_neg (by omega), show sFind (fun n => sDusks T n 6 d = sDusks T n 4 d) i = -9 from by omega]) (lsub_s rfl lsub_0)))) (by rw [sDusks_s T h0])
            · refine r_iload_n (pc := 48) C 3 dX9_homing_48 rfl rfl ?_
              refine r_goto (pc := 49) (tgt := 54) C dX9_homing_49 (by decide) ?_
              refine r_istore_n (pc := 54) C 2 dX9_homing_54 rfl (Nat.le_of_ble_eq_true rfl) ?_
              refine r_aload_n (pc := 55) C 0 dX9_homing_55 rfl rfl ?_
              refine r_callV (pc := 56) (is := [0, 1, 2, 3, 4, 5, 6, 7, 8]) C YX9_goes dX9_homing_56 tw_917 (c_X9_goes l G _ _ _ (by first | assumption | omega | exact zand_rng _ _ | exact zor_rng _ _ | exact zxor_rng _ _ | exact BT.r (IT.b (by assumption)) _ _) (by first | assumption | omega | exact zand_rng _ _ | exact zor_rng _ _ | exact zxor_rng _ _ | exact BT.r (IT.b (by assumption)) _ _)) 0 0 rfl rfl (ci := 9) rfl rfl rfl (by decide) rfl rfl (Nat.le_of_ble_eq_true rfl) ⟨rfl, rfl, by decide, by decide⟩ (jst_v (R_uall ..) ?_)
              refine r_iinc (pc := 59) C dX9_homing_59 rfl ?_
              refine r_goto (pc := 62) (tgt := 23) C dX9_homing_62 (by decide) ?_
              refine Wc.to (ih (i + 1) (by omega) (by omega) (by omega)) rfl (lsub_s rfl (lsub_s rfl (lsub_s (by rw [sFind_s _ h0]; first | rw [if_pos (by omega)] | rw [if_neg (by omega), show sFind (fun n => sDusks T n 6 d = sDusks T n 4 d) i = -9 from by omega]) (lsub_s rfl lsub_0)))) (by rw [sDusks_s T h0])
    refine Wc.to (L23 42 0 (by omega) (by omega) (by omega)) rfl (lsub_s rfl (lsub_s rfl (lsub_s rfl (lsub_s rfl lsub_0)))) rfl
  · refine r_aload_n (pc := 8) C 0 dX9_homing_8 rfl rfl ?_
    refine r_iconst (pc := 9) C dX9_homing_9 ?_
    refine r_callV (pc := 10) (is := [0, 1, 2, 3, 4, 5, 6, 7, 8]) C YX9_refuse dX9_homing_10 tw_785 (c_X9_refuse l G _ _ _ _ (by first | assumption | omega | exact zand_rng _ _ | exact zor_rng _ _ | exact zxor_rng _ _ | exact BT.r (IT.b (by assumption)) _ _)) 0 0 rfl rfl (ci := 9) rfl rfl rfl (by decide) rfl rfl (Nat.le_of_ble_eq_true rfl) ⟨rfl, rfl, by decide, by decide⟩ (jst_i (R_uall ..) ?_)
    exact r_iret (pc := 13) C hQ dX9_homing_13 rfl (fin_noR (by unfold q_dov; (repeat (first | rw [if_pos (by omega)] | rw [if_neg (by omega)])); (try first | rfl | assumption | omega)) (by omega) rfl)

set_option maxRecDepth 100000 in
set_option maxHeartbeats 4000000 in
theorem c_X9_bestOpen (l : Launch) (G : GT) (b : Nat → Nat) (R T : Tn) (z m : Int) (hI : IT T) (hR : IR R) (hk9 : T 0 4 ≤ 999) (gz : -2147483648 ≤ z ∧ z < 2147483648) (gm : -2147483648 ≤ m ∧ m < 2147483648) : Cn l yX9_bestOpen cX9_bestOpen 8 (Option.some .int) ({ frames := 7, cells := 0, slots := 0, locals := 156 }) G [.ref (b 0), .int (iI z), .int (iI m)] (wR G b R T) (jst (some (.int (iI (zans (q_lo T z m 0 40) (v_best T z m))))) (wR G b (zif (q_lo T z m 0 40) (up1 R 5 (flat T)) (rfs R (q_lo T z m 0 40))) (zif (q_lo T z m 0 40) (T) T))) := by
  refine Cn_in RX9 [some (.ref (b 0)), some (.int (iI z)), some (.int (iI m)), none, none, none, none, none] (by decide +kernel) rfl rfl rfl (Nat.le_of_ble_eq_true rfl) (fun K C hQ => ?_)
  obtain ⟨r0, r1, r3, r6, r8⟩ := hR
  have hBB := hI.b
  have hLL := hI.L
  have hDD := hI.D
  have hkk := hI.k
  have hz2 := zp2_r (L := T 0 0) (by omega)
  have hoR : ∀ s, 0 ≤ s → s < zp2 (T 0 0) → IT (up T 0 2 s) := fun s h0 h1 => IT_open hI ⟨h0, h1⟩
  refine r_aload_n (pc := 0) C 0 dX9_bestOpen_0 rfl rfl ?_
  refine r_iload_n (pc := 1) C 1 dX9_bestOpen_1 rfl rfl ?_
  refine r_callV (pc := 2) (is := [0, 1, 2, 3, 4, 5, 6, 7, 8]) C YX9_isLoft dX9_bestOpen_2 tw_834 (c_X9_isLoft l G _ _ _ _ (by first | assumption | omega | exact zand_rng _ _ | exact zor_rng _ _ | exact zxor_rng _ _ | exact BT.r (IT.b (by assumption)) _ _) (by first | assumption | omega | exact zand_rng _ _ | exact zor_rng _ _ | exact zxor_rng _ _ | exact BT.r (IT.b (by assumption)) _ _)) 0 0 rfl rfl (ci := 9) rfl rfl rfl (by decide) rfl rfl (Nat.le_of_ble_eq_true rfl) ⟨rfl, rfl, by decide, by decide⟩ (jst_i (R_uall ..) ?_)
  refine r_ifb_eq (pc := 5) (tgt := 18) C dX9_bestOpen_5 (by decide) (fun c5 => ?_) (fun c5 => ?_)
  · refine r_iconst (pc := 18) C dX9_bestOpen_18 ?_
    refine r_istore_n (pc := 19) C 3 dX9_bestOpen_19 rfl (Nat.le_of_ble_eq_true rfl) ?_
    refine r_iload_n (pc := 20) C 3 dX9_bestOpen_20 rfl rfl ?_
    refine r_if_eq (pc := 21) (tgt := 30) C dX9_bestOpen_21 (by decide) (by first | omega | exact zand_rng _ _ | exact zor_rng _ _ | exact zxor_rng _ _ | exact BT.r (IT.b (by assumption)) _ _) (fun c21 => absurd c21 (by omega)) (fun c21 => ?_)
    refine r_aload_n (pc := 24) C 0 dX9_bestOpen_24 rfl rfl ?_
    refine r_iload_n (pc := 25) C 3 dX9_bestOpen_25 rfl rfl ?_
    refine r_callV (pc := 26) (is := [0, 1, 2, 3, 4, 5, 6, 7, 8]) C YX9_refuse dX9_bestOpen_26 tw_785 (c_X9_refuse l G _ _ _ _ (by first | assumption | omega | exact zand_rng _ _ | exact zor_rng _ _ | exact zxor_rng _ _ | exact BT.r (IT.b (by assumption)) _ _)) 0 0 rfl rfl (ci := 9) rfl rfl rfl (by decide) rfl rfl (Nat.le_of_ble_eq_true rfl) ⟨rfl, rfl, by decide, by decide⟩ (jst_i (R_uall ..) ?_)
    exact r_iret (pc := 29) C hQ dX9_bestOpen_29 rfl (fin_noR (by unfold q_lo; (repeat (first | rw [if_pos (by omega)] | rw [if_neg (by omega)])); (try first | rfl | assumption | omega)) (by omega) rfl)
  · refine r_iload_n (pc := 8) C 2 dX9_bestOpen_8 rfl rfl ?_
    refine r_iconst (pc := 9) C dX9_bestOpen_9 ?_
    refine r_bipush (pc := 10) C dX9_bestOpen_10 (by decide) ?_
    refine r_callS (pc := 12) (is := []) C YX9_within dX9_bestOpen_12 tw_782 (c_X9_within l G _ _ _ (by first | assumption | omega | exact zand_rng _ _ | exact zor_rng _ _ | exact zxor_rng _ _ | exact BT.r (IT.b (by assumption)) _ _) (by first | assumption | omega | exact zand_rng _ _ | exact zor_rng _ _ | exact zxor_rng _ _ | exact BT.r (IT.b (by assumption)) _ _) (by first | assumption | omega | exact zand_rng _ _ | exact zor_rng _ _ | exact zxor_rng _ _ | exact BT.r (IT.b (by assumption)) _ _)) rfl (by decide) rfl rfl (Nat.le_of_ble_eq_true rfl) ⟨rfl, rfl, by decide, by decide⟩ (jst_i rfl ?_)
    have hs12 := sOut_r m 0 40 (by decide)
    refine r_goto (pc := 15) (tgt := 19) C dX9_bestOpen_15 (by decide) ?_
    refine r_istore_n (pc := 19) C 3 dX9_bestOpen_19 rfl (Nat.le_of_ble_eq_true rfl) ?_
    refine r_iload_n (pc := 20) C 3 dX9_bestOpen_20 rfl rfl ?_
    refine r_if_eq (pc := 21) (tgt := 30) C dX9_bestOpen_21 (by decide) (by first | omega | exact zand_rng _ _ | exact zor_rng _ _ | exact zxor_rng _ _ | exact BT.r (IT.b (by assumption)) _ _) (fun c21 => ?_) (fun c21 => ?_)
    · have hfR : ∀ s, 0 ≤ s → s < zp2 (T 0 0) → 0 ≤ sOpenP T z m s ∧ sOpenP T z m s ≤ 64 := fun s h0 h1 => by
        obtain ⟨a1, -⟩ := sDusks_p (hoR s h0 h1) (n := m) (by omega) (by show T 0 4 + m ≤ 1100; omega)
        exact sPurse_r a1 z a1.D.1 (Int.le_refl _)
      refine r_bipush (pc := 30) C dX9_bestOpen_30 (by decide) ?_
      refine r_istore (pc := 32) C dX9_bestOpen_32 (Nat.le_of_ble_eq_true rfl) ?_
      refine r_iconst (pc := 34) C dX9_bestOpen_34 ?_
      refine r_istore (pc := 35) C dX9_bestOpen_35 (Nat.le_of_ble_eq_true rfl) ?_
      refine r_aload_n (pc := 37) C 0 dX9_bestOpen_37 rfl rfl ?_
      refine r_callV (pc := 38) (is := [0, 1, 2, 3, 4, 5, 6, 7, 8]) C YX9_begins dX9_bestOpen_38 tw_933 (c_X9_begins l G _ _ _) 0 0 rfl rfl (ci := 9) rfl rfl rfl (by decide) rfl rfl (Nat.le_of_ble_eq_true rfl) ⟨rfl, rfl, by decide, by decide⟩ (jst_v (R_uall ..) ?_)
      refine r_iconst (pc := 41) C dX9_bestOpen_41 ?_
      refine r_istore (pc := 42) C dX9_bestOpen_42 (Nat.le_of_ble_eq_true rfl) ?_
      have L44 : ∀ (n : Nat) (i : Int), 0 ≤ i → i ≤ zp2 (T 0 0) → zp2 (T 0 0) < i + n → Wc K G 44 [some (.ref (b 0)), some (.int (iI z)), some (.int (iI m)), none, some (.int (iI (sBest (sOpenP T z m) i).1)), some (.int (iI (sBest (sOpenP T z m) i).2)), some (.int (iI i)), none] [] (wR G b (up1 R 5 (flat T)) T) := by
        intro n
        induction n with
        | zero =>
          intro i h0 h1 hn; omega
        | succ n ih =>
          intro i h0 h1 hn
          have hb := sBest_r (sOpenP T z m) h0 h1 hfR
          refine r_iload (pc := 44) C dX9_bestOpen_44 rfl ?_
          refine r_iconst (pc := 46) C dX9_bestOpen_46 ?_
          refine r_aload_n (pc := 47) C 0 dX9_bestOpen_47 rfl rfl ?_
          refine r_get (pc := 48) C 0 0 1 dX9_bestOpen_48 in_X9 rfl rfl (ci := 9) rfl (by decide) tw_742 rfl rfl ?_
          refine r_iconst (pc := 51) C dX9_bestOpen_51 ?_
          refine r_ialoadE (pc := 52) C 2 0 dX9_bestOpen_52 rfl rfl (by decide) (by omega) (show flat T 0 = T 0 0 from flat_0 _ (by decide)) ?_
          refine r_ishl (pc := 53) C dX9_bestOpen_53 (by omega) ?_
          refine r_icmp_ge (pc := 54) (tgt := 110) C dX9_bestOpen_54 (by decide) (by first | omega | exact zand_rng _ _ | exact zor_rng _ _ | exact zxor_rng _ _ | exact BT.r (IT.b (by assumption)) _ _) (by first | omega | exact zand_rng _ _ | exact zor_rng _ _ | exact zxor_rng _ _ | exact BT.r (IT.b (by assumption)) _ _) (fun c54 => ?_) (fun c54 => ?_)
          · obtain rfl : i = zp2 (T 0 0) := by omega
            refine r_iload (pc := 110) C dX9_bestOpen_110 rfl ?_
            exact r_iret (pc := 112) C hQ dX9_bestOpen_112 rfl (fin_okR (by unfold q_lo; (repeat (first | rw [if_pos (by omega)] | rw [if_neg (by omega)])); (try first | rfl | assumption | omega)) (by rfl) (by rfl))
          · have hI1 := hoR i h0 (by omega)
            obtain ⟨hI2, -⟩ := sDusks_p hI1 (n := m) (by omega) (by show T 0 4 + m ≤ 1100; omega)
            have hp1 := hfR i h0 (by omega)
            have hpq : sOpenP T z m i = sPurse (sDusks (up T 0 2 i) m) z (sDusks (up T 0 2 i) m 0 1) := rfl
            refine r_aload_n (pc := 57) C 0 dX9_bestOpen_57 rfl rfl ?_
            refine r_get (pc := 58) C 0 0 1 dX9_bestOpen_58 in_X9 rfl rfl (ci := 9) rfl (by decide) tw_742 rfl rfl ?_
            refine r_iconst (pc := 61) C dX9_bestOpen_61 ?_
            refine r_iload (pc := 62) C dX9_bestOpen_62 rfl ?_
            refine r_iastore (pc := 64) C 2 0 dX9_bestOpen_64 rfl rfl (by decide) (by omega) rfl (R_s0 _ _ _ _ (by decide)) ?_
            refine r_aload_n (pc := 65) C 0 dX9_bestOpen_65 rfl rfl ?_
            refine r_iload_n (pc := 66) C 2 dX9_bestOpen_66 rfl rfl ?_
            refine r_callV (pc := 67) (is := [0, 1, 2, 3, 4, 5, 6, 7, 8]) C YX9_goesFor dX9_bestOpen_67 tw_937 (c_X9_goesFor l G _ _ _ _ (by first | assumption | omega | exact zand_rng _ _ | exact zor_rng _ _ | exact zxor_rng _ _ | exact BT.r (IT.b (by assumption)) _ _) (by first | assumption | omega | exact zand_rng _ _ | exact zor_rng _ _ | exact zxor_rng _ _ | exact BT.r (IT.b (by assumption)) _ _) (by show T 0 4 + m ≤ 1100; omega)) 0 0 rfl rfl (ci := 9) rfl rfl rfl (by decide) rfl rfl (Nat.le_of_ble_eq_true rfl) ⟨rfl, rfl, by decide, by decide⟩ (jst_v (R_uall ..) ?_)
            refine r_aload_n (pc := 70) C 0 dX9_bestOpen_70 rfl rfl ?_
            refine r_iload_n (pc := 71) C 1 dX9_bestOpen_71 rfl rfl ?_
            refine r_callV (pc := 72) (is := [0, 1, 2, 3, 4, 5, 6, 7, 8]) C YX9_purseOf dX9_bestOpen_72 tw_838 (c_X9_purseOf l G _ _ _ _ (by first | assumption | omega | exact zand_rng _ _ | exact zor_rng _ _ | exact zxor_rng _ _ | exact BT.r (IT.b (by assumption)) _ _) (by first | assumption | omega | exact zand_rng _ _ | exact zor_rng _ _ | exact zxor_rng _ _ | exact BT.r (IT.b (by assumption)) _ _)) 0 0 rfl rfl (ci := 9) rfl rfl rfl (by decide) rfl rfl (Nat.le_of_ble_eq_true rfl) ⟨rfl, rfl, by decide, by decide⟩ (jst_i (R_uall ..) ?_)
            refine r_istore (pc := 75) C dX9_bestOpen_75 (Nat.le_of_ble_eq_true rfl) ?_
            refine r_aload_n (pc := 77) C 0 dX9_bestOpen_77 rfl rfl ?_
            refine r_callV (pc := 78) (is := [0, 1, 2, 3, 4, 5, 6, 7, 8]) C YX9_ends dX9_bestOpen_78 tw_941 (c_X9_ends l G _ _ _ _ rfl) 0 0 rfl rfl (ci := 9) rfl rfl rfl (by decide) rfl rfl (Nat.le_of_ble_eq_true rfl) ⟨rfl, rfl, by decide, by decide⟩ (jst_v (R_uall ..) ?_)
            refine r_iload (pc := 81) C dX9_bestOpen_81 rfl ?_
            refine r_if_lt (pc := 83) (tgt := 96) C dX9_bestOpen_83 (by decide) (by first | omega | exact zand_rng _ _ | exact zor_rng _ _ | exact zxor_rng _ _ | exact BT.r (IT.b (by assumption)) _ _) (fun c83 => ?_) (fun c83 => ?_)
            · refine r_iload (pc := 96) C dX9_bestOpen_96 rfl ?_
              refine r_istore (pc := 98) C dX9_bestOpen_98 (Nat.le_of_ble_eq_true rfl) ?_
              refine r_iload (pc := 100) C dX9_bestOpen_100 rfl ?_
              refine r_istore (pc := 102) C dX9_bestOpen_102 (Nat.le_of_ble_eq_true rfl) ?_
              refine r_iinc (pc := 104) C dX9_bestOpen_104 rfl ?_
              refine r_goto (pc := 107) (tgt := 44) C dX9_bestOpen_107 (by decide) ?_
              refine Wc.to (ih (i + 1) (by omega) (by omega) (by omega)) rfl (lsub_s rfl (lsub_s rfl (lsub_s rfl (lsub_n (lsub_s (by rw [sBest_s _ h0]; first | rw [if_pos (by omega)] | rw [if_neg (by omega)]) (lsub_s (by rw [sBest_s _ h0]; first | (rw [if_pos (by omega)]; done) | (rw [if_neg (by omega)]; rfl)) (lsub_s rfl (lsub_n lsub_0)))))))) rfl
            · refine r_iload (pc := 86) C dX9_bestOpen_86 rfl ?_
              refine r_iload (pc := 88) C dX9_bestOpen_88 rfl ?_
              refine r_icmp_gt (pc := 90) (tgt := 96) C dX9_bestOpen_90 (by decide) (by first | omega | exact zand_rng _ _ | exact zor_rng _ _ | exact zxor_rng _ _ | exact BT.r (IT.b (by assumption)) _ _) (by first | omega | exact zand_rng _ _ | exact zor_rng _ _ | exact zxor_rng _ _ | exact BT.r (IT.b (by assumption)) _ _) (fun c90 => ?_) (fun c90 => ?_)
              · refine r_iload (pc := 96) C dX9_bestOpen_96 rfl ?_
                refine r_istore (pc := 98) C dX9_bestOpen_98 (Nat.le_of_ble_eq_true rfl) ?_
                refine r_iload (pc := 100) C dX9_bestOpen_100 rfl ?_
                refine r_istore (pc := 102) C dX9_bestOpen_102 (Nat.le_of_ble_eq_true rfl) ?_
                refine r_iinc (pc := 104) C dX9_bestOpen_104 rfl ?_
                refine r_goto (pc := 107) (tgt := 44) C dX9_bestOpen_107 (by decide) ?_
                refine Wc.to (ih (i + 1) (by omega) (by omega) (by omega)) rfl (lsub_s rfl (lsub_s rfl (lsub_s rfl (lsub_n (lsub_s (by rw [sBest_s _ h0]; first | rw [if_pos (by omega)] | rw [if_neg (by omega)]) (lsub_s (by rw [sBest_s _ h0]; first | (rw [if_pos (by omega)]; done) | (rw [if_neg (by omega)]; rfl)) (lsub_s rfl (lsub_n lsub_0)))))))) rfl
              · refine r_goto (pc := 93) (tgt := 104) C dX9_bestOpen_93 (by decide) ?_
                refine r_iinc (pc := 104) C dX9_bestOpen_104 rfl ?_
                refine r_goto (pc := 107) (tgt := 44) C dX9_bestOpen_107 (by decide) ?_
                refine Wc.to (ih (i + 1) (by omega) (by omega) (by omega)) rfl (lsub_s rfl (lsub_s rfl (lsub_s rfl (lsub_n (lsub_s (by rw [sBest_s _ h0]; first | rw [if_pos (by omega)] | rw [if_neg (by omega)]) (lsub_s (by rw [sBest_s _ h0]; first | (rw [if_pos (by omega)]; done) | (rw [if_neg (by omega)]; rfl)) (lsub_s rfl (lsub_n lsub_0)))))))) rfl
      refine Wc.to (L44 ((zp2 (T 0 0)).toNat + 1) 0 (by omega) (by omega) (by omega)) rfl (lsub_s rfl (lsub_s rfl (lsub_s rfl (lsub_n (lsub_s rfl (lsub_s rfl (lsub_s rfl (lsub_n lsub_0)))))))) rfl
    · refine r_aload_n (pc := 24) C 0 dX9_bestOpen_24 rfl rfl ?_
      refine r_iload_n (pc := 25) C 3 dX9_bestOpen_25 rfl rfl ?_
      refine r_callV (pc := 26) (is := [0, 1, 2, 3, 4, 5, 6, 7, 8]) C YX9_refuse dX9_bestOpen_26 tw_785 (c_X9_refuse l G _ _ _ _ (by first | assumption | omega | exact zand_rng _ _ | exact zor_rng _ _ | exact zxor_rng _ _ | exact BT.r (IT.b (by assumption)) _ _)) 0 0 rfl rfl (ci := 9) rfl rfl rfl (by decide) rfl rfl (Nat.le_of_ble_eq_true rfl) ⟨rfl, rfl, by decide, by decide⟩ (jst_i (R_uall ..) ?_)
      exact r_iret (pc := 29) C hQ dX9_bestOpen_29 rfl (fin_noR (by unfold q_lo; (repeat (first | rw [if_pos (by omega)] | rw [if_neg (by omega)])); (try first | rfl | assumption | omega)) (by omega) rfl)

set_option maxRecDepth 100000 in
set_option maxHeartbeats 4000000 in
theorem c_X9_spare (l : Launch) (G : GT) (b : Nat → Nat) (R T : Tn) (m : Int) (hI : IT T) (hR : IR R) (hk9 : T 0 4 ≤ 999) (gm : -2147483648 ≤ m ∧ m < 2147483648) : Cn l yX9_spare cX9_spare 6 (Option.some .int) ({ frames := 7, cells := 0, slots := 0, locals := 156 }) G [.ref (b 0), .int (iI m)] (wR G b R T) (jst (some (.int (iI (zans (sOut m 0 40) (v_spare T m))))) (wR G b (zif (sOut m 0 40) (up1 R 5 (flat T)) (rfs R (sOut m 0 40))) (zif (sOut m 0 40) (T) T))) := by
  refine Cn_in RX9 [some (.ref (b 0)), some (.int (iI m)), none, none, none, none] (by decide +kernel) rfl rfl rfl (Nat.le_of_ble_eq_true rfl) (fun K C hQ => ?_)
  obtain ⟨r0, r1, r3, r6, r8⟩ := hR
  have hBB := hI.b
  have hLL := hI.L
  have hDD := hI.D
  have hkk := hI.k
  have hlo := sLost_r (T := T) hDD.1
  have hoR : ∀ s, 0 ≤ s → s ≤ 20 → IT (up T 0 3 s) := fun s h0 h1 => IT_hawk hI ⟨h0, h1⟩
  refine r_iload_n (pc := 0) C 1 dX9_spare_0 rfl rfl ?_
  refine r_iconst (pc := 1) C dX9_spare_1 ?_
  refine r_bipush (pc := 2) C dX9_spare_2 (by decide) ?_
  refine r_callS (pc := 4) (is := []) C YX9_within dX9_spare_4 tw_782 (c_X9_within l G _ _ _ (by first | assumption | omega | exact zand_rng _ _ | exact zor_rng _ _ | exact zxor_rng _ _ | exact BT.r (IT.b (by assumption)) _ _) (by first | assumption | omega | exact zand_rng _ _ | exact zor_rng _ _ | exact zxor_rng _ _ | exact BT.r (IT.b (by assumption)) _ _) (by first | assumption | omega | exact zand_rng _ _ | exact zor_rng _ _ | exact zxor_rng _ _ | exact BT.r (IT.b (by assumption)) _ _)) rfl (by decide) rfl rfl (Nat.le_of_ble_eq_true rfl) ⟨rfl, rfl, by decide, by decide⟩ (jst_i rfl ?_)
  have hs4 := sOut_r m 0 40 (by decide)
  refine r_istore_n (pc := 7) C 2 dX9_spare_7 rfl (Nat.le_of_ble_eq_true rfl) ?_
  refine r_iload_n (pc := 8) C 2 dX9_spare_8 rfl rfl ?_
  refine r_if_eq (pc := 9) (tgt := 18) C dX9_spare_9 (by decide) (by first | omega | exact zand_rng _ _ | exact zor_rng _ _ | exact zxor_rng _ _ | exact BT.r (IT.b (by assumption)) _ _) (fun c9 => ?_) (fun c9 => ?_)
  · refine r_aload_n (pc := 18) C 0 dX9_spare_18 rfl rfl ?_
    refine r_callV (pc := 19) (is := [0, 1, 2, 3, 4, 5, 6, 7, 8]) C YX9_lostMany dX9_spare_19 tw_913 (c_X9_lostMany l G _ _ _ (by first | assumption | omega | exact zand_rng _ _ | exact zor_rng _ _ | exact zxor_rng _ _ | exact BT.r (IT.b (by assumption)) _ _)) 0 0 rfl rfl (ci := 9) rfl rfl rfl (by decide) rfl rfl (Nat.le_of_ble_eq_true rfl) ⟨rfl, rfl, by decide, by decide⟩ (jst_i (R_uall ..) ?_)
    refine r_istore_n (pc := 22) C 3 dX9_spare_22 rfl (Nat.le_of_ble_eq_true rfl) ?_
    refine r_bipush (pc := 23) C dX9_spare_23 (by decide) ?_
    refine r_istore (pc := 25) C dX9_spare_25 (Nat.le_of_ble_eq_true rfl) ?_
    refine r_aload_n (pc := 27) C 0 dX9_spare_27 rfl rfl ?_
    refine r_callV (pc := 28) (is := [0, 1, 2, 3, 4, 5, 6, 7, 8]) C YX9_begins dX9_spare_28 tw_933 (c_X9_begins l G _ _ _) 0 0 rfl rfl (ci := 9) rfl rfl rfl (by decide) rfl rfl (Nat.le_of_ble_eq_true rfl) ⟨rfl, rfl, by decide, by decide⟩ (jst_v (R_uall ..) ?_)
    refine r_iconst (pc := 31) C dX9_spare_31 ?_
    refine r_istore (pc := 32) C dX9_spare_32 (Nat.le_of_ble_eq_true rfl) ?_
    have L34 : ∀ (n : Nat) (i : Int), 0 ≤ i → i ≤ 21 → 21 < i + n → Wc K G 34 [some (.ref (b 0)), some (.int (iI m)), none, some (.int (iI (sLost T (T 0 1)))), some (.int (iI (sFind (fun v => sLost (sDusks (up T 0 3 v) m) (sDusks (up T 0 3 v) m 0 1) = sLost T (T 0 1)) i))), some (.int (iI i))] [] (wR G b (up1 R 5 (flat T)) T) := by
      intro n
      induction n with
      | zero =>
        intro i h0 h1 hn; omega
      | succ n ih =>
        intro i h0 h1 hn
        have hf := sFind_r (fun v => sLost (sDusks (up T 0 3 v) m) (sDusks (up T 0 3 v) m 0 1) = sLost T (T 0 1)) h0
        have hst := sFind_st (fun v => sLost (sDusks (up T 0 3 v) m) (sDusks (up T 0 3 v) m 0 1) = sLost T (T 0 1)) (i := i) (j := 21) h0
        refine r_iload (pc := 34) C dX9_spare_34 rfl ?_
        refine r_bipush (pc := 36) C dX9_spare_36 (by decide) ?_
        refine r_icmp_gt (pc := 38) (tgt := 86) C dX9_spare_38 (by decide) (by first | omega | exact zand_rng _ _ | exact zor_rng _ _ | exact zxor_rng _ _ | exact BT.r (IT.b (by assumption)) _ _) (by first | omega | exact zand_rng _ _ | exact zor_rng _ _ | exact zxor_rng _ _ | exact BT.r (IT.b (by assumption)) _ _) (fun c38 => ?_) (fun c38 => ?_)
        · refine r_iload (pc := 86) C dX9_spare_86 rfl ?_
          exact r_iret (pc := 88) C hQ dX9_spare_88 rfl (fin_okR (by first | rfl | assumption) (by unfold v_spare; first | rw [hst (by omega) h1] | rw [show (21 : Int) = i by omega]) (by rfl))
        · refine r_iload (pc := 41) C dX9_spare_41 rfl ?_
          refine r_if_ge (pc := 43) (tgt := 86) C dX9_spare_43 (by decide) (by first | omega | exact zand_rng _ _ | exact zor_rng _ _ | exact zxor_rng _ _ | exact BT.r (IT.b (by assumption)) _ _) (fun c43 => ?_) (fun c43 => ?_)
          · refine r_iload (pc := 86) C dX9_spare_86 rfl ?_
            exact r_iret (pc := 88) C hQ dX9_spare_88 rfl (fin_okR (by first | rfl | assumption) (by unfold v_spare; first | rw [hst (by omega) h1] | rw [show (21 : Int) = i by omega]) (by rfl))
          · have hI1 := hoR i h0 (by omega)
            obtain ⟨hI2, -⟩ := sDusks_p hI1 (n := m) (by omega) (by show T 0 4 + m ≤ 1100; omega)
            have hp1 := sLost_r (T := sDusks (up T 0 3 i) m) hI2.D.1
            have hp2 := hI2.D
            refine r_aload_n (pc := 46) C 0 dX9_spare_46 rfl rfl ?_
            refine r_get (pc := 47) C 0 0 1 dX9_spare_47 in_X9 rfl rfl (ci := 9) rfl (by decide) tw_742 rfl rfl ?_
            refine r_iconst (pc := 50) C dX9_spare_50 ?_
            refine r_iload (pc := 51) C dX9_spare_51 rfl ?_
            refine r_iastore (pc := 53) C 2 0 dX9_spare_53 rfl rfl (by decide) (by omega) rfl (R_s0 _ _ _ _ (by decide)) ?_
            refine r_aload_n (pc := 54) C 0 dX9_spare_54 rfl rfl ?_
            refine r_iload_n (pc := 55) C 1 dX9_spare_55 rfl rfl ?_
            refine r_callV (pc := 56) (is := [0, 1, 2, 3, 4, 5, 6, 7, 8]) C YX9_goesFor dX9_spare_56 tw_937 (c_X9_goesFor l G _ _ _ _ (by first | assumption | omega | exact zand_rng _ _ | exact zor_rng _ _ | exact zxor_rng _ _ | exact BT.r (IT.b (by assumption)) _ _) (by first | assumption | omega | exact zand_rng _ _ | exact zor_rng _ _ | exact zxor_rng _ _ | exact BT.r (IT.b (by assumption)) _ _) (by show T 0 4 + m ≤ 1100; omega)) 0 0 rfl rfl (ci := 9) rfl rfl rfl (by decide) rfl rfl (Nat.le_of_ble_eq_true rfl) ⟨rfl, rfl, by decide, by decide⟩ (jst_v (R_uall ..) ?_)
            refine r_aload_n (pc := 59) C 0 dX9_spare_59 rfl rfl ?_
            refine r_callV (pc := 60) (is := [0, 1, 2, 3, 4, 5, 6, 7, 8]) C YX9_lostMany dX9_spare_60 tw_913 (c_X9_lostMany l G _ _ _ (by first | assumption | omega | exact zand_rng _ _ | exact zor_rng _ _ | exact zxor_rng _ _ | exact BT.r (IT.b (by assumption)) _ _)) 0 0 rfl rfl (ci := 9) rfl rfl rfl (by decide) rfl rfl (Nat.le_of_ble_eq_true rfl) ⟨rfl, rfl, by decide, by decide⟩ (jst_i (R_uall ..) ?_)
            refine r_iload_n (pc := 63) C 3 dX9_spare_63 rfl rfl ?_
            refine r_icmp_ne (pc := 64) (tgt := 72) C dX9_spare_64 (by decide) (by first | omega | exact zand_rng _ _ | exact zor_rng _ _ | exact zxor_rng _ _ | exact BT.r (IT.b (by assumption)) _ _) (by first | omega | exact zand_rng _ _ | exact zor_rng _ _ | exact zxor_rng _ _ | exact BT.r (IT.b (by assumption)) _ _) (fun c64 => ?_) (fun c64 => ?_)
            · refine r_bipush (pc := 72) C dX9_spare_72 (by decide) ?_
              refine r_istore (pc := 74) C dX9_spare_74 (Nat.le_of_ble_eq_true rfl) ?_
              refine r_aload_n (pc := 76) C 0 dX9_spare_76 rfl rfl ?_
              refine r_callV (pc := 77) (is := [0, 1, 2, 3, 4, 5, 6, 7, 8]) C YX9_ends dX9_spare_77 tw_941 (c_X9_ends l G _ _ _ _ rfl) 0 0 rfl rfl (ci := 9) rfl rfl rfl (by decide) rfl rfl (Nat.le_of_ble_eq_true rfl) ⟨rfl, rfl, by decide, by decide⟩ (jst_v (R_uall ..) ?_)
              refine r_iinc (pc := 80) C dX9_spare_80 rfl ?_
              refine r_goto (pc := 83) (tgt := 34) C dX9_spare_83 (by decide) ?_
              refine Wc.to (ih (i + 1) (by omega) (by omega) (by omega)) rfl (lsub_s rfl (lsub_s rfl (lsub_n (lsub_s rfl (lsub_s (by rw [sFind_s _ h0]; first | rw [if_pos (by omega)] | rw [if_neg (by omega), show sFind (fun v => sLost (sDusks (up T 0 3 v) m) (sDusks (up T 0 3 v) m 0 1) = sLost T (T 0 1)) i = -9 from by omega]) (lsub_s rfl lsub_0)))))) rfl
            · refine r_iload (pc := 67) C dX9_spare_67 rfl ?_
              refine r_goto (pc := 69) (tgt := 74) C dX9_spare_69 (by decide) ?_
              refine r_istore (pc := 74) C dX9_spare_74 (Nat.le_of_ble_eq_true rfl) ?_
              refine r_aload_n (pc := 76) C 0 dX9_spare_76 rfl rfl ?_
              refine r_callV (pc := 77) (is := [0, 1, 2, 3, 4, 5, 6, 7, 8]) C YX9_ends dX9_spare_77 tw_941 (c_X9_ends l G _ _ _ _ rfl) 0 0 rfl rfl (ci := 9) rfl rfl rfl (by decide) rfl rfl (Nat.le_of_ble_eq_true rfl) ⟨rfl, rfl, by decide, by decide⟩ (jst_v (R_uall ..) ?_)
              refine r_iinc (pc := 80) C dX9_spare_80 rfl ?_
              refine r_goto (pc := 83) (tgt := 34) C dX9_spare_83 (by decide) ?_
              refine Wc.to (ih (i + 1) (by omega) (by omega) (by omega)) rfl (lsub_s rfl (lsub_s rfl (lsub_n (lsub_s rfl (lsub_s (by rw [sFind_s _ h0]; first | rw [if_pos (by omega)] | rw [if_neg (by omega), show sFind (fun v => sLost (sDusks (up T 0 3 v) m) (sDusks (up T 0 3 v) m 0 1) = sLost T (T 0 1)) i = -9 from by omega]) (lsub_s rfl lsub_0)))))) rfl
    refine Wc.to (L34 22 0 (by omega) (by omega) (by omega)) rfl (lsub_s rfl (lsub_s rfl (lsub_n (lsub_s rfl (lsub_s rfl (lsub_s rfl lsub_0)))))) rfl
  · refine r_aload_n (pc := 12) C 0 dX9_spare_12 rfl rfl ?_
    refine r_iload_n (pc := 13) C 2 dX9_spare_13 rfl rfl ?_
    refine r_callV (pc := 14) (is := [0, 1, 2, 3, 4, 5, 6, 7, 8]) C YX9_refuse dX9_spare_14 tw_785 (c_X9_refuse l G _ _ _ _ (by first | assumption | omega | exact zand_rng _ _ | exact zor_rng _ _ | exact zxor_rng _ _ | exact BT.r (IT.b (by assumption)) _ _)) 0 0 rfl rfl (ci := 9) rfl rfl rfl (by decide) rfl rfl (Nat.le_of_ble_eq_true rfl) ⟨rfl, rfl, by decide, by decide⟩ (jst_i (R_uall ..) ?_)
    exact r_iret (pc := 17) C hQ dX9_spare_17 rfl (fin_noR (by first | rfl | assumption) (by omega) rfl)

set_option maxRecDepth 100000 in
set_option maxHeartbeats 4000000 in
theorem c_X9_row (l : Launch) (G : GT) (b : Nat → Nat) (R T : Tn) (v : Int) (hI : IT T) (hR : IR R) (gv : -2147483648 ≤ v ∧ v < 2147483648) : Cn l yX9_row cX9_row 3 (Option.some .int) ({ frames := 1, cells := 0, slots := 0, locals := 22 }) G [.ref (b 0), .int (iI v)] (wR G b R T) (jst (some (.int (iI (zans (q_row v (R 0 3)) (R 0 3 + 1))))) (wR G b (zif (q_row v (R 0 3)) (up (up R 8 (R 0 3) v) 0 3 (R 0 3 + 1)) (rfs R (q_row v (R 0 3)))) (zif (q_row v (R 0 3)) (T) T))) := by
  refine Cn_in RX9 [some (.ref (b 0)), some (.int (iI v)), none] (by decide +kernel) rfl rfl rfl (Nat.le_of_ble_eq_true rfl) (fun K C hQ => ?_)
  obtain ⟨r0, r1, r3, r6, r8⟩ := hR
  have hBB := hI.b
  have hLL := hI.L
  have hDD := hI.D
  refine r_iload_n (pc := 0) C 1 dX9_row_0 rfl rfl ?_
  refine r_iconst (pc := 1) C dX9_row_1 ?_
  refine r_bipush (pc := 2) C dX9_row_2 (by decide) ?_
  refine r_callS (pc := 4) (is := []) C YX9_within dX9_row_4 tw_782 (c_X9_within l G _ _ _ (by first | assumption | omega | exact zand_rng _ _ | exact zor_rng _ _ | exact zxor_rng _ _ | exact BT.r (IT.b (by assumption)) _ _) (by first | assumption | omega | exact zand_rng _ _ | exact zor_rng _ _ | exact zxor_rng _ _ | exact BT.r (IT.b (by assumption)) _ _) (by first | assumption | omega | exact zand_rng _ _ | exact zor_rng _ _ | exact zxor_rng _ _ | exact BT.r (IT.b (by assumption)) _ _)) rfl (by decide) rfl rfl (Nat.le_of_ble_eq_true rfl) ⟨rfl, rfl, by decide, by decide⟩ (jst_i rfl ?_)
  have hs4 := sOut_r v 0 9 (by decide)
  refine r_istore_n (pc := 7) C 2 dX9_row_7 rfl (Nat.le_of_ble_eq_true rfl) ?_
  refine r_iload_n (pc := 8) C 2 dX9_row_8 rfl rfl ?_
  refine r_if_ne (pc := 9) (tgt := 24) C dX9_row_9 (by decide) (by first | omega | exact zand_rng _ _ | exact zor_rng _ _ | exact zxor_rng _ _ | exact BT.r (IT.b (by assumption)) _ _) (fun c9 => ?_) (fun c9 => ?_)
  · refine r_iload_n (pc := 24) C 2 dX9_row_24 rfl rfl ?_
    refine r_if_eq (pc := 25) (tgt := 34) C dX9_row_25 (by decide) (by first | omega | exact zand_rng _ _ | exact zor_rng _ _ | exact zxor_rng _ _ | exact BT.r (IT.b (by assumption)) _ _) (fun c25 => ?_) (fun c25 => ?_)
    · refine r_aload_n (pc := 34) C 0 dX9_row_34 rfl rfl ?_
      refine r_get (pc := 35) C 0 0 10 dX9_row_35 in_X9 rfl rfl (ci := 9) rfl (by decide) tw_751 rfl rfl ?_
      refine r_aload_n (pc := 38) C 0 dX9_row_38 rfl rfl ?_
      refine r_get (pc := 39) C 0 0 11 dX9_row_39 in_X9 rfl rfl (ci := 9) rfl (by decide) tw_752 rfl rfl ?_
      refine r_iload_n (pc := 42) C 1 dX9_row_42 rfl rfl ?_
      refine r_iastore (pc := 43) C 8 0 dX9_row_43 rfl rfl (by decide) (by omega) rfl (R_a8_0 ..) ?_
      refine r_aload_n (pc := 44) C 0 dX9_row_44 rfl rfl ?_
      refine r_dup (pc := 45) C dX9_row_45 rfl ?_
      refine r_get (pc := 46) C 0 0 11 dX9_row_46 in_X9 rfl rfl (ci := 9) rfl (by decide) tw_752 rfl rfl ?_
      refine r_iconst (pc := 49) C dX9_row_49 ?_
      refine r_iadd (pc := 50) C dX9_row_50 ?_
      refine r_put (pc := 51) C 0 0 11 dX9_row_51 in_X9 tyX9_ok nmX9 rfl rfl (ci := 9) rfl (by decide) tw_752 rfl rfl (tyX9_ok 11 (by decide)) rfl rfl (Nat.le_of_ble_eq_true rfl) rfl (R_p0_11 ..) ?_
      refine r_aload_n (pc := 54) C 0 dX9_row_54 rfl rfl ?_
      refine r_get (pc := 55) C 0 0 11 dX9_row_55 in_X9 rfl rfl (ci := 9) rfl (by decide) tw_752 rfl rfl ?_
      exact r_iret (pc := 58) C hQ dX9_row_58 rfl (fin_okR (by unfold q_row; (repeat (first | rw [if_pos (by omega)] | rw [if_neg (by omega)])); (try first | rfl | assumption | omega)) (by first | rfl | omega) (by rfl))
    · refine r_aload_n (pc := 28) C 0 dX9_row_28 rfl rfl ?_
      refine r_iload_n (pc := 29) C 2 dX9_row_29 rfl rfl ?_
      refine r_callV (pc := 30) (is := [0, 1, 2, 3, 4, 5, 6, 7, 8]) C YX9_refuse dX9_row_30 tw_785 (c_X9_refuse l G _ _ _ _ (by first | assumption | omega | exact zand_rng _ _ | exact zor_rng _ _ | exact zxor_rng _ _ | exact BT.r (IT.b (by assumption)) _ _)) 0 0 rfl rfl (ci := 9) rfl rfl rfl (by decide) rfl rfl (Nat.le_of_ble_eq_true rfl) ⟨rfl, rfl, by decide, by decide⟩ (jst_i (R_uall ..) ?_)
      exact r_iret (pc := 33) C hQ dX9_row_33 rfl (fin_noR (by unfold q_row; (repeat (first | rw [if_pos (by omega)] | rw [if_neg (by omega)])); (try first | rfl | assumption | omega)) (by omega) rfl)
  · refine r_aload_n (pc := 12) C 0 dX9_row_12 rfl rfl ?_
    refine r_get (pc := 13) C 0 0 11 dX9_row_13 in_X9 rfl rfl (ci := 9) rfl (by decide) tw_752 rfl rfl ?_
    refine r_bipush (pc := 16) C dX9_row_16 (by decide) ?_
    refine r_icmp_ne (pc := 18) (tgt := 24) C dX9_row_18 (by decide) (by first | omega | exact zand_rng _ _ | exact zor_rng _ _ | exact zxor_rng _ _ | exact BT.r (IT.b (by assumption)) _ _) (by first | omega | exact zand_rng _ _ | exact zor_rng _ _ | exact zxor_rng _ _ | exact BT.r (IT.b (by assumption)) _ _) (fun c18 => ?_) (fun c18 => ?_)
    · refine r_iload_n (pc := 24) C 2 dX9_row_24 rfl rfl ?_
      refine r_if_eq (pc := 25) (tgt := 34) C dX9_row_25 (by decide) (by first | omega | exact zand_rng _ _ | exact zor_rng _ _ | exact zxor_rng _ _ | exact BT.r (IT.b (by assumption)) _ _) (fun c25 => ?_) (fun c25 => ?_)
      · refine r_aload_n (pc := 34) C 0 dX9_row_34 rfl rfl ?_
        refine r_get (pc := 35) C 0 0 10 dX9_row_35 in_X9 rfl rfl (ci := 9) rfl (by decide) tw_751 rfl rfl ?_
        refine r_aload_n (pc := 38) C 0 dX9_row_38 rfl rfl ?_
        refine r_get (pc := 39) C 0 0 11 dX9_row_39 in_X9 rfl rfl (ci := 9) rfl (by decide) tw_752 rfl rfl ?_
        refine r_iload_n (pc := 42) C 1 dX9_row_42 rfl rfl ?_
        refine r_iastore (pc := 43) C 8 0 dX9_row_43 rfl rfl (by decide) (by omega) rfl (R_a8_0 ..) ?_
        refine r_aload_n (pc := 44) C 0 dX9_row_44 rfl rfl ?_
        refine r_dup (pc := 45) C dX9_row_45 rfl ?_
        refine r_get (pc := 46) C 0 0 11 dX9_row_46 in_X9 rfl rfl (ci := 9) rfl (by decide) tw_752 rfl rfl ?_
        refine r_iconst (pc := 49) C dX9_row_49 ?_
        refine r_iadd (pc := 50) C dX9_row_50 ?_
        refine r_put (pc := 51) C 0 0 11 dX9_row_51 in_X9 tyX9_ok nmX9 rfl rfl (ci := 9) rfl (by decide) tw_752 rfl rfl (tyX9_ok 11 (by decide)) rfl rfl (Nat.le_of_ble_eq_true rfl) rfl (R_p0_11 ..) ?_
        refine r_aload_n (pc := 54) C 0 dX9_row_54 rfl rfl ?_
        refine r_get (pc := 55) C 0 0 11 dX9_row_55 in_X9 rfl rfl (ci := 9) rfl (by decide) tw_752 rfl rfl ?_
        exact r_iret (pc := 58) C hQ dX9_row_58 rfl (fin_okR (by unfold q_row; (repeat (first | rw [if_pos (by omega)] | rw [if_neg (by omega)])); (try first | rfl | assumption | omega)) (by first | rfl | omega) (by rfl))
      · refine r_aload_n (pc := 28) C 0 dX9_row_28 rfl rfl ?_
        refine r_iload_n (pc := 29) C 2 dX9_row_29 rfl rfl ?_
        refine r_callV (pc := 30) (is := [0, 1, 2, 3, 4, 5, 6, 7, 8]) C YX9_refuse dX9_row_30 tw_785 (c_X9_refuse l G _ _ _ _ (by first | assumption | omega | exact zand_rng _ _ | exact zor_rng _ _ | exact zxor_rng _ _ | exact BT.r (IT.b (by assumption)) _ _)) 0 0 rfl rfl (ci := 9) rfl rfl rfl (by decide) rfl rfl (Nat.le_of_ble_eq_true rfl) ⟨rfl, rfl, by decide, by decide⟩ (jst_i (R_uall ..) ?_)
        exact r_iret (pc := 33) C hQ dX9_row_33 rfl (fin_noR (by unfold q_row; (repeat (first | rw [if_pos (by omega)] | rw [if_neg (by omega)])); (try first | rfl | assumption | omega)) (by omega) rfl)
    · refine r_bipush (pc := 21) C dX9_row_21 (by decide) ?_
      refine r_istore_n (pc := 23) C 2 dX9_row_23 rfl (Nat.le_of_ble_eq_true rfl) ?_
      refine r_iload_n (pc := 24) C 2 dX9_row_24 rfl rfl ?_
      refine r_if_eq (pc := 25) (tgt := 34) C dX9_row_25 (by decide) (by first | omega | exact zand_rng _ _ | exact zor_rng _ _ | exact zxor_rng _ _ | exact BT.r (IT.b (by assumption)) _ _) (fun c25 => absurd c25 (by omega)) (fun c25 => ?_)
      refine r_aload_n (pc := 28) C 0 dX9_row_28 rfl rfl ?_
      refine r_iload_n (pc := 29) C 2 dX9_row_29 rfl rfl ?_
      refine r_callV (pc := 30) (is := [0, 1, 2, 3, 4, 5, 6, 7, 8]) C YX9_refuse dX9_row_30 tw_785 (c_X9_refuse l G _ _ _ _ (by first | assumption | omega | exact zand_rng _ _ | exact zor_rng _ _ | exact zxor_rng _ _ | exact BT.r (IT.b (by assumption)) _ _)) 0 0 rfl rfl (ci := 9) rfl rfl rfl (by decide) rfl rfl (Nat.le_of_ble_eq_true rfl) ⟨rfl, rfl, by decide, by decide⟩ (jst_i (R_uall ..) ?_)
      exact r_iret (pc := 33) C hQ dX9_row_33 rfl (fin_noR (by unfold q_row; (repeat (first | rw [if_pos (by omega)] | rw [if_neg (by omega)])); (try first | rfl | assumption | omega)) (by omega) rfl)

set_option maxRecDepth 100000 in
set_option maxHeartbeats 4000000 in
theorem c_X9_isAsTold (l : Launch) (G : GT) (b : Nat → Nat) (R T : Tn) (hI : IT T) (h3 : 0 ≤ R 0 3 ∧ R 0 3 ≤ T 0 1) (h8 : ∀ j, 0 ≤ R 8 j ∧ R 8 j ≤ 9) : Cn l yX9_isAsTold cX9_isAsTold 2 (Option.some .boolean) ({ frames := 1, cells := 0, slots := 0, locals := 22 }) G [.ref (b 0)] (wR G b R T) (jst (some (.int (iI (zc (sTold T (R 8) (R 0 3)))))) (wR G b R T)) := by
  refine Cn_in RX9 [some (.ref (b 0)), none] (by decide +kernel) rfl rfl rfl (Nat.le_of_ble_eq_true rfl) (fun K C hQ => ?_)
  have hDD := hI.D
  refine r_iconst (pc := 0) C dX9_isAsTold_0 ?_
  refine r_istore_n (pc := 1) C 1 dX9_isAsTold_1 rfl (Nat.le_of_ble_eq_true rfl) ?_
  have L2 : ∀ (n : Nat) (i : Int), 0 ≤ i → i ≤ R 0 3 → R 0 3 < i + n → (∀ d, 0 ≤ d → d < i → R 8 d = T 6 d) → Wc K G 2 [some (.ref (b 0)), some (.int (iI i))] [] (wR G b R T) := by
    intro n
    induction n with
    | zero =>
      intro i h0 h1 hn; omega
    | succ n ih =>
      intro i h0 h1 hn hp
      have hr8 := h8 i
      refine r_iload_n (pc := 2) C 1 dX9_isAsTold_2 rfl rfl ?_
      refine r_aload_n (pc := 3) C 0 dX9_isAsTold_3 rfl rfl ?_
      refine r_get (pc := 4) C 0 0 11 dX9_isAsTold_4 in_X9 rfl rfl (ci := 9) rfl (by decide) tw_752 rfl rfl ?_
      refine r_icmp_ge (pc := 7) (tgt := 33) C dX9_isAsTold_7 (by decide) (by first | omega | exact zand_rng _ _ | exact zor_rng _ _ | exact zxor_rng _ _ | exact BT.r (IT.b (by assumption)) _ _) (by first | omega | exact zand_rng _ _ | exact zor_rng _ _ | exact zxor_rng _ _ | exact BT.r (IT.b (by assumption)) _ _) (fun c7 => ?_) (fun c7 => ?_)
      · refine r_iconst (pc := 33) C dX9_isAsTold_33 ?_
        exact r_zret (pc := 34) C hQ dX9_isAsTold_34 (by decide) rfl (jst_ri (by exact (zc_t (fun d a c => hp d a (by omega))).symm) rfl)
      · refine r_aload_n (pc := 10) C 0 dX9_isAsTold_10 rfl rfl ?_
        refine r_get (pc := 11) C 0 0 10 dX9_isAsTold_11 in_X9 rfl rfl (ci := 9) rfl (by decide) tw_751 rfl rfl ?_
        refine r_iload_n (pc := 14) C 1 dX9_isAsTold_14 rfl rfl ?_
        refine r_iaload (pc := 15) C 8 0 dX9_isAsTold_15 rfl rfl (by decide) (by omega) ?_
        refine r_aload_n (pc := 16) C 0 dX9_isAsTold_16 rfl rfl ?_
        refine r_iload_n (pc := 17) C 1 dX9_isAsTold_17 rfl rfl ?_
        refine r_iconst (pc := 18) C dX9_isAsTold_18 ?_
        refine r_callV (pc := 19) (is := [0, 1, 2, 3, 4, 5, 6, 7, 8]) C YX9_get dX9_isAsTold_19 tw_842 (c_X9_get3 l G _ _ _ _ (by first | assumption | omega | exact zand_rng _ _ | exact zor_rng _ _ | exact zxor_rng _ _ | exact BT.r (IT.b (by assumption)) _ _)) 0 0 rfl rfl (ci := 9) rfl rfl rfl (by decide) rfl rfl (Nat.le_of_ble_eq_true rfl) ⟨rfl, rfl, by decide, by decide⟩ (jst_i (R_uall ..) ?_)
        refine r_icmp_eq (pc := 22) (tgt := 27) C dX9_isAsTold_22 (by decide) (by first | omega | exact zand_rng _ _ | exact zor_rng _ _ | exact zxor_rng _ _ | exact BT.r (IT.b (by assumption)) _ _) (by first | omega | exact zand_rng _ _ | exact zor_rng _ _ | exact zxor_rng _ _ | exact BT.r (IT.b (by assumption)) _ _) (fun c22 => ?_) (fun c22 => ?_)
        · refine r_iinc (pc := 27) C dX9_isAsTold_27 rfl ?_
          refine r_goto (pc := 30) (tgt := 2) C dX9_isAsTold_30 (by decide) ?_
          refine Wc.to (ih (i + 1) (by omega) (by omega) (by omega) (fun d a c => if e : d = i then by rw [e]; assumption else hp d a (by omega))) rfl (lsub_s rfl (lsub_s rfl lsub_0)) (by rfl)
        · refine r_iconst (pc := 25) C dX9_isAsTold_25 ?_
          exact r_zret (pc := 26) C hQ dX9_isAsTold_26 (by decide) rfl (jst_ri (by exact (zc_f (fun q => by have := q i h0 (by omega); omega)).symm) rfl)
  refine Wc.to (L2 ((R 0 3 - (0)).toNat + 1) (0) (by omega) (by omega) (by omega) (fun d a c => absurd c (by omega))) rfl (lsub_s rfl (lsub_s rfl lsub_0)) (by rfl)

