theorem cR_cons {T : Tn} {v p r : Int} (hp : 0 ≤ p ∧ p < T 0 0) (hw : sWay T p r ≤ v) : ∀ (n : Nat) (q : Int), cR T v n r q → cR T v (n + 1) p q := by
  intro n
  induction n with
  | zero =>
    intro q h
    have h : r = q := h
    exact Or.inr ⟨p, hp, rfl, by rw [← h]; exact hw⟩
  | succ n ih =>
    intro q h
    rcases h with h | ⟨s, hs, h2, h3⟩
    · exact Or.inl (ih q h)
    · exact Or.inr ⟨s, hs, ih s h2, h3⟩
theorem cR_unc {T : Tn} {v p : Int} : ∀ (n : Nat) (q : Int), (0 ≤ q ∧ q < T 0 0) → cR T v (n + 1) p q → cR T v n p q ∨ ∃ r, (0 ≤ r ∧ r < T 0 0) ∧ sWay T p r ≤ v ∧ cR T v n r q := by
  intro n
  induction n with
  | zero =>
    intro q hq h
    rcases h with h | ⟨r, hr, h2, h3⟩
    · exact Or.inl h
    · have h2 : p = r := h2
      exact Or.inr ⟨q, hq, by rw [h2]; exact h3, rfl⟩
  | succ n ih =>
    intro q hq h
    rcases h with h | ⟨s, hs, h2, h3⟩
    · exact Or.inl h
    · rcases ih s hs h2 with h4 | ⟨r, hr, h5, h6⟩
      · exact Or.inl (Or.inr ⟨s, hs, h4, h3⟩)
      · exact Or.inr ⟨r, hr, h5, Or.inr ⟨s, hs, h6, h3⟩⟩
/-- the leaders in round t, at loft p and its other c -/
def jI (T : Tn) (v t p c : Int) (F : Int → Int) : Prop :=
  (∀ k, 0 ≤ k → k < T 0 0 → (0 ≤ F k ∧ F k ≤ k) ∧ cR T v (T 0 0).toNat k (F k)) ∧
  (∀ k q, 0 ≤ k → k < T 0 0 → 0 ≤ q → q < T 0 0 → cR T v t.toNat k q → F k ≤ q) ∧
  (∀ k r q, 0 ≤ k → k < T 0 0 → 0 ≤ r → r < T 0 0 → 0 ≤ q → q < T 0 0 → (k < p ∨ k = p ∧ r < c) → sWay T k r ≤ v → cR T v t.toNat r q → F k ≤ q)
theorem jI_0 {T : Tn} {v : Int} {F : Int → Int} (h : ∀ k, 0 ≤ k → k < T 0 0 → F k = k) : jI T v 0 0 0 F := by
  refine ⟨fun k h0 h1 => ?_, fun k q h0 h1 h2 h3 hc => ?_, fun k r q h0 _ h2 _ _ _ hh => by omega⟩
  · rw [h k h0 h1]
    exact ⟨⟨h0, Int.le_refl _⟩, cR_mono (n := 0) rfl (Nat.zero_le _)⟩
  · have hc : k = q := hc
    rw [h k h0 h1]
    omega
theorem jI_n {T : Tn} {v t p c : Int} {F : Int → Int} (h : jI T v t p c F) (hc : 0 ≤ c ∧ c < T 0 0) (hn : v < sWay T p c ∨ F p ≤ F c) : jI T v t p (c + 1) F := by
  refine ⟨h.1, h.2.1, fun k r q h0 h1 h2 h3 h4 h5 hh hw hr => ?_⟩
  by_cases e : k = p ∧ r = c
  · rw [e.1] at hw ⊢
    rw [e.2] at hw hr
    have := h.2.1 c q hc.1 hc.2 h4 h5 hr
    omega
  · exact h.2.2 k r q h0 h1 h2 h3 h4 h5 (by omega) hw hr
theorem jI_y {T : Tn} {v t p c : Int} {F : Int → Int} (h : jI T v t p c F) (hp : 0 ≤ p ∧ p < T 0 0) (hc : 0 ≤ c ∧ c < T 0 0) (hw : sWay T p c ≤ v) (hl : F c < F p) : jI T v t p (c + 1) (zup F p (F c)) := by
  have hle : ∀ k, zup F p (F c) k ≤ F k := fun k => by
    by_cases e : k = p
    · rw [e, zup_s]; omega
    · rw [zup_n e]; exact Int.le_refl _
  refine ⟨fun k h0 h1 => ?_, fun k q h0 h1 h2 h3 hh => ?_, fun k r q h0 h1 h2 h3 h4 h5 hh hw2 hr => ?_⟩
  · by_cases e : k = p
    · obtain ⟨a1, a2⟩ := h.1 c hc.1 hc.2
      obtain ⟨b1, -⟩ := h.1 p hp.1 hp.2
      rw [e, zup_s]
      exact ⟨by omega, cR_cl hp (by omega) (by omega) (cR_cons hp hw _ _ a2)⟩
    · rw [zup_n e]
      exact h.1 k h0 h1
  · have := h.2.1 k q h0 h1 h2 h3 hh
    have := hle k
    omega
  · by_cases e : k = p ∧ r = c
    · have := h.2.1 c q hc.1 hc.2 h4 h5 (by rw [← e.2]; exact hr)
      rw [e.1, zup_s]
      exact this
    · have := h.2.2 k r q h0 h1 h2 h3 h4 h5 (by omega) hw2 hr
      have := hle k
      omega
theorem jI_a {T : Tn} {v t p c : Int} {F : Int → Int} (h : jI T v t p c F) (hc : T 0 0 ≤ c) : jI T v t (p + 1) 0 F :=
  ⟨h.1, h.2.1, fun k r q h0 h1 h2 h3 h4 h5 hh => h.2.2 k r q h0 h1 h2 h3 h4 h5 (by omega)⟩
theorem jI_t {T : Tn} {v t p : Int} {F : Int → Int} (h : jI T v t p 0 F) (ht : 0 ≤ t) (hp : T 0 0 ≤ p) : jI T v (t + 1) 0 0 F := by
  refine ⟨h.1, fun k q h0 h1 h2 h3 hh => ?_, fun k r q h0 _ h2 _ _ _ hh => by omega⟩
  rw [show (t + 1).toNat = t.toNat + 1 by omega] at hh
  rcases cR_unc _ _ ⟨h2, h3⟩ hh with h4 | ⟨r, hr, h5, h6⟩
  · exact h.2.1 k q h0 h1 h2 h3 h4
  · exact h.2.2 k r q h0 h1 hr.1 hr.2 h2 h3 (by omega) h5 h6
theorem jI_is {T : Tn} {v t : Int} {F : Int → Int} (h : jI T v t 0 0 F) (ht : T 0 0 ≤ t) : ∀ k, 0 ≤ k → k < T 0 0 → F k = sComp T v k := by
  intro k h0 h1
  obtain ⟨a1, a2⟩ := h.1 k h0 h1
  refine (sComp_is a1.1 (by omega) (fun j hj hk hc => ?_) a2).symm
  have := h.2.1 k j h0 h1 hj (by omega) (cR_mono hc (by omega))
  omega
theorem up_up1 (X : Tn) (a : Nat) (F : Int → Int) (z v : Int) : up (up1 X a F) a z v = up1 X a (zup F z v) := by
  funext j
  unfold up up1
  by_cases e : j = a
  · rw [if_pos e, if_pos e, if_pos rfl]
  · rw [if_neg e, if_neg e, if_neg e]
def aTl (G : GT) (a : Nat → Nat) (X N M P S : Tn) (v t p : Int) : Option Value → List va_W → Prop := fun o g => o = none ∧ ∃ F', g = wC G a (up1 X 2 F') N M P S ∧ jI N v t p 0 F'
def aJl (G : GT) (a : Nat → Nat) (X N M P S : Tn) (v : Int) : Option Value → List va_W → Prop := fun o g => o = none ∧ ∃ F', g = wC G a (up1 X 2 F') N M P S ∧ ∀ k, 0 ≤ k → k < N 0 0 → F' k = sComp N v k
theorem up1_e (X : Tn) (F1 : Int → Int) : up1 X 2 F1 = up1 (up1 X 2 F1) 3 (X 3) := (up1_id (up1 X 2 F1) 3).symm
set_option maxRecDepth 100000 in
set_option maxHeartbeats 4000000 in
theorem c_X8_takeLeastLeader (l : Launch) (G : GT) (a : Nat → Nat) (X N M P S : Tn) (t p v : Int) (F : Int → Int) (hI : IT N) (hp : 0 ≤ p ∧ p < N 0 0) (gv : -2147483648 ≤ v ∧ v < 2147483648) (hj : jI N v t p 0 F) : Cn l yX8_takeLeastLeader cX8_takeLeastLeader 4 none ({ frames := 1, cells := 0, slots := 0, locals := 24 }) G [.ref (a 0), .int (iI p), .int (iI v)] (wC G a (up1 X 2 F) N M P S) (aTl G a X N M P S v t (p + 1)) := by
  refine Cn_in RX8 [some (.ref (a 0)), some (.int (iI p)), some (.int (iI v)), none] (by decide +kernel) rfl rfl rfl (Nat.le_of_ble_eq_true rfl) (fun K C hQ => ?_)
  have hLL := hI.L
  refine r_iconst (pc := 0) C dX8_takeLeastLeader_0 ?_
  refine r_istore_n (pc := 1) C 3 dX8_takeLeastLeader_1 rfl (Nat.le_of_ble_eq_true rfl) ?_
  have L2 : ∀ (n : Nat) (i : Int) (F : Int → Int), 0 ≤ i → i ≤ N 0 0 → N 0 0 < i + n → jI N v t p i F → Wc K G 2 [some (.ref (a 0)), some (.int (iI p)), some (.int (iI v)), some (.int (iI i))] [] (wC G a (up1 X 2 F) N M P S) := by
    intro n
    induction n with
    | zero =>
      intro i F h0 h1 hn; omega
    | succ n ih =>
      intro i F h0 h1 hn hj
      refine r_iload_n (pc := 2) C 3 dX8_takeLeastLeader_2 rfl rfl ?_
      refine r_aload_n (pc := 3) C 0 dX8_takeLeastLeader_3 rfl rfl ?_
      refine r_get (pc := 4) C 0 0 0 dX8_takeLeastLeader_4 in_X8 rfl rfl (ci := 8) rfl (by decide) tw_143 rfl rfl ?_
      refine r_get (pc := 7) C 1 0 8 dX8_takeLeastLeader_7 in_X6 rfl rfl (ci := 6) rfl (by decide) tw_92 rfl rfl ?_
      refine r_icmp_ge (pc := 10) (tgt := 59) C dX8_takeLeastLeader_10 (by decide) (by first | omega | exact zand_rng _ _ | exact zor_rng _ _ | exact zxor_rng _ _ | exact BT.r (IT.b (by assumption)) _ _) (by first | omega | exact zand_rng _ _ | exact zor_rng _ _ | exact zxor_rng _ _ | exact BT.r (IT.b (by assumption)) _ _) (fun c10 => ?_) (fun c10 => ?_)
      · exact r_vret (pc := 59) C hQ dX8_takeLeastLeader_59 rfl (by exact ⟨rfl, F, rfl, jI_a hj (by omega)⟩)
      · refine r_aload_n (pc := 13) C 0 dX8_takeLeastLeader_13 rfl rfl ?_
        refine r_get (pc := 14) C 0 0 0 dX8_takeLeastLeader_14 in_X8 rfl rfl (ci := 8) rfl (by decide) tw_143 rfl rfl ?_
        refine r_iload_n (pc := 17) C 1 dX8_takeLeastLeader_17 rfl rfl ?_
        refine r_iload_n (pc := 18) C 3 dX8_takeLeastLeader_18 rfl rfl ?_
        refine r_callV (pc := 19) (is := [1]) C YX6_apart dX8_takeLeastLeader_19 tw_590 (c_X6_apart l G _ _ _ _ (by first | assumption | omega | exact zand_rng _ _ | exact zor_rng _ _ | exact zxor_rng _ _ | exact BT.r (IT.b (by assumption)) _ _) (by first | assumption | omega | exact zand_rng _ _ | exact zor_rng _ _ | exact zxor_rng _ _ | exact BT.r (IT.b (by assumption)) _ _) (by first | assumption | omega | exact zand_rng _ _ | exact zor_rng _ _ | exact zxor_rng _ _ | exact BT.r (IT.b (by assumption)) _ _)) 1 0 rfl rfl (ci := 6) rfl rfl rfl (by decide) rfl rfl (Nat.le_of_ble_eq_true rfl) ⟨rfl, rfl, by decide, by decide⟩ (jst_i (C_u1 ..) ?_)
        have hw1 := sWay_r hI (a := p) (b := i) (by omega) (by omega)
        refine r_iload_n (pc := 22) C 2 dX8_takeLeastLeader_22 rfl rfl ?_
        refine r_icmp_gt (pc := 23) (tgt := 53) C dX8_takeLeastLeader_23 (by decide) (by first | omega | exact zand_rng _ _ | exact zor_rng _ _ | exact zxor_rng _ _ | exact BT.r (IT.b (by assumption)) _ _) (by first | omega | exact zand_rng _ _ | exact zor_rng _ _ | exact zxor_rng _ _ | exact BT.r (IT.b (by assumption)) _ _) (fun c23 => ?_) (fun c23 => ?_)
        · refine r_iinc (pc := 53) C dX8_takeLeastLeader_53 rfl ?_
          refine r_goto (pc := 56) (tgt := 2) C dX8_takeLeastLeader_56 (by decide) ?_
          first | refine Wc.to (ih (i + 1) F (by omega) (by omega) (by omega) (jI_n hj (by omega) (by omega))) rfl (lsub_s rfl (lsub_s rfl (lsub_s rfl (lsub_s rfl lsub_0)))) rfl | refine Wc.to (ih (i + 1) (zup F p (F i)) (by omega) (by omega) (by omega) (jI_y hj hp (by omega) (by omega) (by omega))) rfl (lsub_s rfl (lsub_s rfl (lsub_s rfl (lsub_s rfl lsub_0)))) rfl
        · have hFi := (hj.1 i h0 (by omega)).1
          have hFp := (hj.1 p hp.1 hp.2).1
          refine r_aload_n (pc := 26) C 0 dX8_takeLeastLeader_26 rfl rfl ?_
          refine r_get (pc := 27) C 0 0 5 dX8_takeLeastLeader_27 in_X8 rfl rfl (ci := 8) rfl (by decide) tw_148 rfl rfl ?_
          refine r_iload_n (pc := 30) C 3 dX8_takeLeastLeader_30 rfl rfl ?_
          refine r_ialoadE (pc := 31) C 0 2 dX8_takeLeastLeader_31 rfl rfl (by decide) (by omega) (show F i = F i from rfl) ?_
          refine r_aload_n (pc := 32) C 0 dX8_takeLeastLeader_32 rfl rfl ?_
          refine r_get (pc := 33) C 0 0 5 dX8_takeLeastLeader_33 in_X8 rfl rfl (ci := 8) rfl (by decide) tw_148 rfl rfl ?_
          refine r_iload_n (pc := 36) C 1 dX8_takeLeastLeader_36 rfl rfl ?_
          refine r_ialoadE (pc := 37) C 0 2 dX8_takeLeastLeader_37 rfl rfl (by decide) (by omega) (show F p = F p from rfl) ?_
          refine r_icmp_ge (pc := 38) (tgt := 53) C dX8_takeLeastLeader_38 (by decide) (by first | omega | exact zand_rng _ _ | exact zor_rng _ _ | exact zxor_rng _ _ | exact BT.r (IT.b (by assumption)) _ _) (by first | omega | exact zand_rng _ _ | exact zor_rng _ _ | exact zxor_rng _ _ | exact BT.r (IT.b (by assumption)) _ _) (fun c38 => ?_) (fun c38 => ?_)
          · refine r_iinc (pc := 53) C dX8_takeLeastLeader_53 rfl ?_
            refine r_goto (pc := 56) (tgt := 2) C dX8_takeLeastLeader_56 (by decide) ?_
            first | refine Wc.to (ih (i + 1) F (by omega) (by omega) (by omega) (jI_n hj (by omega) (by omega))) rfl (lsub_s rfl (lsub_s rfl (lsub_s rfl (lsub_s rfl lsub_0)))) rfl | refine Wc.to (ih (i + 1) (zup F p (F i)) (by omega) (by omega) (by omega) (jI_y hj hp (by omega) (by omega) (by omega))) rfl (lsub_s rfl (lsub_s rfl (lsub_s rfl (lsub_s rfl lsub_0)))) rfl
          · refine r_aload_n (pc := 41) C 0 dX8_takeLeastLeader_41 rfl rfl ?_
            refine r_get (pc := 42) C 0 0 5 dX8_takeLeastLeader_42 in_X8 rfl rfl (ci := 8) rfl (by decide) tw_148 rfl rfl ?_
            refine r_iload_n (pc := 45) C 1 dX8_takeLeastLeader_45 rfl rfl ?_
            refine r_aload_n (pc := 46) C 0 dX8_takeLeastLeader_46 rfl rfl ?_
            refine r_get (pc := 47) C 0 0 5 dX8_takeLeastLeader_47 in_X8 rfl rfl (ci := 8) rfl (by decide) tw_148 rfl rfl ?_
            refine r_iload_n (pc := 50) C 3 dX8_takeLeastLeader_50 rfl rfl ?_
            refine r_ialoadE (pc := 51) C 0 2 dX8_takeLeastLeader_51 rfl rfl (by decide) (by omega) (show F i = F i from rfl) ?_
            refine r_iastore (pc := 52) C 0 2 dX8_takeLeastLeader_52 rfl rfl (by decide) (by omega) rfl ((C_a0_2 ..).trans (congrArg (fun Z => wC G a Z N M P S) (up_up1 ..))) ?_
            refine r_iinc (pc := 53) C dX8_takeLeastLeader_53 rfl ?_
            refine r_goto (pc := 56) (tgt := 2) C dX8_takeLeastLeader_56 (by decide) ?_
            first | refine Wc.to (ih (i + 1) F (by omega) (by omega) (by omega) (jI_n hj (by omega) (by omega))) rfl (lsub_s rfl (lsub_s rfl (lsub_s rfl (lsub_s rfl lsub_0)))) rfl | refine Wc.to (ih (i + 1) (zup F p (F i)) (by omega) (by omega) (by omega) (jI_y hj hp (by omega) (by omega) (by omega))) rfl (lsub_s rfl (lsub_s rfl (lsub_s rfl (lsub_s rfl lsub_0)))) rfl
  refine Wc.to (L2 7 0 F (by omega) (by omega) (by omega) hj) rfl (lsub_s rfl (lsub_s rfl (lsub_s rfl (lsub_s rfl lsub_0)))) rfl

set_option maxRecDepth 100000 in
set_option maxHeartbeats 4000000 in
theorem c_X8_joinLofts (l : Launch) (G : GT) (a : Nat → Nat) (X N M P S : Tn) (v : Int) (hI : IT N) (gv : -2147483648 ≤ v ∧ v < 2147483648) : Cn l yX8_joinLofts cX8_joinLofts 4 none ({ frames := 2, cells := 0, slots := 0, locals := 47 }) G [.ref (a 0), .int (iI v)] (wC G a X N M P S) (aJl G a X N M P S v) := by
  refine Cn_in RX8 [some (.ref (a 0)), some (.int (iI v)), none, none] (by decide +kernel) rfl rfl rfl (Nat.le_of_ble_eq_true rfl) (fun K C hQ => ?_)
  have hLL := hI.L
  refine r_iconst (pc := 0) C dX8_joinLofts_0 ?_
  refine r_istore_n (pc := 1) C 2 dX8_joinLofts_1 rfl (Nat.le_of_ble_eq_true rfl) ?_
  have L2 : ∀ (n : Nat) (i : Int) (F : Int → Int), 0 ≤ i → i ≤ N 0 0 → N 0 0 < i + n → (∀ k, 0 ≤ k → k < i → F k = k) → Wc K G 2 [some (.ref (a 0)), some (.int (iI v)), some (.int (iI i)), none] [] (wC G a (up1 X 2 F) N M P S) := by
    intro n
    induction n with
    | zero =>
      intro i F h0 h1 hn; omega
    | succ n ih =>
      intro i F h0 h1 hn hF
      refine r_iload_n (pc := 2) C 2 dX8_joinLofts_2 rfl rfl ?_
      refine r_aload_n (pc := 3) C 0 dX8_joinLofts_3 rfl rfl ?_
      refine r_get (pc := 4) C 0 0 0 dX8_joinLofts_4 in_X8 rfl rfl (ci := 8) rfl (by decide) tw_143 rfl rfl ?_
      refine r_get (pc := 7) C 1 0 8 dX8_joinLofts_7 in_X6 rfl rfl (ci := 6) rfl (by decide) tw_92 rfl rfl ?_
      refine r_icmp_ge (pc := 10) (tgt := 26) C dX8_joinLofts_10 (by decide) (by first | omega | exact zand_rng _ _ | exact zor_rng _ _ | exact zxor_rng _ _ | exact BT.r (IT.b (by assumption)) _ _) (by first | omega | exact zand_rng _ _ | exact zor_rng _ _ | exact zxor_rng _ _ | exact BT.r (IT.b (by assumption)) _ _) (fun c10 => ?_) (fun c10 => ?_)
      · refine r_iconst (pc := 26) C dX8_joinLofts_26 ?_
        refine r_istore_n (pc := 27) C 2 dX8_joinLofts_27 rfl (Nat.le_of_ble_eq_true rfl) ?_
        have L28 : ∀ (n : Nat) (t : Int) (F : Int → Int), 0 ≤ t → t ≤ N 0 0 → N 0 0 < t + n → jI N v t 0 0 F → Wc K G 28 [some (.ref (a 0)), some (.int (iI v)), some (.int (iI t)), none] [] (wC G a (up1 X 2 F) N M P S) := by
          intro n
          induction n with
          | zero =>
            intro t F h70 h71 h72; omega
          | succ n ih =>
            intro t F h70 h71 h72 hj7
            have ih28 := ih
            refine r_iload_n (pc := 28) C 2 dX8_joinLofts_28 rfl rfl ?_
            refine r_aload_n (pc := 29) C 0 dX8_joinLofts_29 rfl rfl ?_
            refine r_get (pc := 30) C 0 0 0 dX8_joinLofts_30 in_X8 rfl rfl (ci := 8) rfl (by decide) tw_143 rfl rfl ?_
            refine r_get (pc := 33) C 1 0 8 dX8_joinLofts_33 in_X6 rfl rfl (ci := 6) rfl (by decide) tw_92 rfl rfl ?_
            refine r_icmp_ge (pc := 36) (tgt := 70) C dX8_joinLofts_36 (by decide) (by first | omega | exact zand_rng _ _ | exact zor_rng _ _ | exact zxor_rng _ _ | exact BT.r (IT.b (by assumption)) _ _) (by first | omega | exact zand_rng _ _ | exact zor_rng _ _ | exact zxor_rng _ _ | exact BT.r (IT.b (by assumption)) _ _) (fun c36 => ?_) (fun c36 => ?_)
            · exact r_vret (pc := 70) C hQ dX8_joinLofts_70 rfl (by exact ⟨rfl, F, rfl, jI_is hj7 (by omega)⟩)
            · refine r_iconst (pc := 39) C dX8_joinLofts_39 ?_
              refine r_istore_n (pc := 40) C 3 dX8_joinLofts_40 rfl (Nat.le_of_ble_eq_true rfl) ?_
              have L41 : ∀ (n : Nat) (p : Int) (F : Int → Int), 0 ≤ p → p ≤ N 0 0 → N 0 0 < p + n → jI N v t p 0 F → Wc K G 41 [some (.ref (a 0)), some (.int (iI v)), some (.int (iI t)), some (.int (iI p))] [] (wC G a (up1 X 2 F) N M P S) := by
                intro n
                induction n with
                | zero =>
                  intro p F h80 h81 h82; omega
                | succ n ih =>
                  intro p F h80 h81 h82 hj8
                  refine r_iload_n (pc := 41) C 3 dX8_joinLofts_41 rfl rfl ?_
                  refine r_aload_n (pc := 42) C 0 dX8_joinLofts_42 rfl rfl ?_
                  refine r_get (pc := 43) C 0 0 0 dX8_joinLofts_43 in_X8 rfl rfl (ci := 8) rfl (by decide) tw_143 rfl rfl ?_
                  refine r_get (pc := 46) C 1 0 8 dX8_joinLofts_46 in_X6 rfl rfl (ci := 6) rfl (by decide) tw_92 rfl rfl ?_
                  refine r_icmp_ge (pc := 49) (tgt := 64) C dX8_joinLofts_49 (by decide) (by first | omega | exact zand_rng _ _ | exact zor_rng _ _ | exact zxor_rng _ _ | exact BT.r (IT.b (by assumption)) _ _) (by first | omega | exact zand_rng _ _ | exact zor_rng _ _ | exact zxor_rng _ _ | exact BT.r (IT.b (by assumption)) _ _) (fun c49 => ?_) (fun c49 => ?_)
                  · refine r_iinc (pc := 64) C dX8_joinLofts_64 rfl ?_
                    refine r_goto (pc := 67) (tgt := 28) C dX8_joinLofts_67 (by decide) ?_
                    refine Wc.to (ih28 (t + 1) F (by omega) (by omega) (by omega) (jI_t hj8 h70 (by omega))) rfl (lsub_s rfl (lsub_s rfl (lsub_s rfl (lsub_n lsub_0)))) rfl
                  · refine r_aload_n (pc := 52) C 0 dX8_joinLofts_52 rfl rfl ?_
                    refine r_iload_n (pc := 53) C 3 dX8_joinLofts_53 rfl rfl ?_
                    refine r_iload_n (pc := 54) C 1 dX8_joinLofts_54 rfl rfl ?_
                    refine r_callV (pc := 55) (is := [0, 1, 2, 3, 4]) C YX8_takeLeastLeader dX8_joinLofts_55 tw_642 (c_X8_takeLeastLeader l G _ X _ _ _ _ t p v F hI (by omega) gv hj8) 0 0 rfl rfl (ci := 8) rfl rfl rfl (by decide) rfl rfl (Nat.le_of_ble_eq_true rfl) ⟨rfl, rfl, by decide, by decide⟩ ?_
                    refine fun o g hq0 _ => ?_
                    obtain ⟨rfl, F1, rfl, hj9⟩ := hq0
                    show Wc K G _ _ [] (wC G a (up1 X 2 F1) N M P S)
                    refine r_iinc (pc := 58) C dX8_joinLofts_58 rfl ?_
                    refine r_goto (pc := 61) (tgt := 41) C dX8_joinLofts_61 (by decide) ?_
                    refine Wc.to (ih (p + 1) F1 (by omega) (by omega) (by omega) hj9) rfl (lsub_s rfl (lsub_s rfl (lsub_s rfl (lsub_s rfl lsub_0)))) rfl
              refine Wc.to (L41 7 0 F (by omega) (by omega) (by omega) hj7) rfl (lsub_s rfl (lsub_s rfl (lsub_s rfl (lsub_s rfl lsub_0)))) rfl
        refine Wc.to (L28 7 0 F (by omega) (by omega) (by omega) (jI_0 (fun k a c => hF k a (by omega)))) rfl (lsub_s rfl (lsub_s rfl (lsub_s rfl (lsub_n lsub_0)))) rfl
      · refine r_aload_n (pc := 13) C 0 dX8_joinLofts_13 rfl rfl ?_
        refine r_get (pc := 14) C 0 0 5 dX8_joinLofts_14 in_X8 rfl rfl (ci := 8) rfl (by decide) tw_148 rfl rfl ?_
        refine r_iload_n (pc := 17) C 2 dX8_joinLofts_17 rfl rfl ?_
        refine r_iload_n (pc := 18) C 2 dX8_joinLofts_18 rfl rfl ?_
        refine r_iastore (pc := 19) C 0 2 dX8_joinLofts_19 rfl rfl (by decide) (by omega) rfl ((C_a0_2 ..).trans (congrArg (fun Z => wC G a Z N M P S) (up_up1 ..))) ?_
        refine r_iinc (pc := 20) C dX8_joinLofts_20 rfl ?_
        refine r_goto (pc := 23) (tgt := 2) C dX8_joinLofts_23 (by decide) ?_
        refine Wc.to (ih (i + 1) (zup F i i) (by omega) (by omega) (by omega) (fun k a c => if e : k = i then by rw [e, zup_s] else by rw [zup_n e]; exact hF k a (by omega))) rfl (lsub_s rfl (lsub_s rfl (lsub_s rfl (lsub_n lsub_0)))) rfl
  refine Wc.to (L2 7 0 (X 2) (by omega) (by omega) (by omega) (fun k a c => absurd c (by omega))) rfl (lsub_s rfl (lsub_s rfl (lsub_s rfl (lsub_n lsub_0)))) (by rw [up1_id])

set_option maxRecDepth 100000 in
set_option maxHeartbeats 4000000 in
theorem c_X8_whose (l : Launch) (G : GT) (a : Nat → Nat) (X N M P S : Tn) (z v : Int) (hI : IT N) (hX : IX X S) (gz : -2147483648 ≤ z ∧ z < 2147483648) (gv : -2147483648 ≤ v ∧ v < 2147483648) : Cn l yX8_whose cX8_whose 4 (Option.some .int) ({ frames := 3, cells := 0, slots := 0, locals := 70 }) G [.ref (a 0), .int (iI z), .int (iI v)] (wC G a X N M P S) (aE G a (q_lo N z v 0 18) (sComp N v z) (X) (xrf X (q_lo N z v 0 18)) (N) N P S) := by
  refine Cn_in RX8 [some (.ref (a 0)), some (.int (iI z)), some (.int (iI v)), none] (by decide +kernel) rfl rfl rfl (Nat.le_of_ble_eq_true rfl) (fun K C hQ => ?_)
  obtain ⟨x1, s1, x3, s6, x8⟩ := hX
  have hBB := hI.b
  have hLL := hI.L
  have hDD := hI.D
  have hkk := hI.k
  refine r_aload_n (pc := 0) C 0 dX8_whose_0 rfl rfl ?_
  refine r_get (pc := 1) C 0 0 0 dX8_whose_1 in_X8 rfl rfl (ci := 8) rfl (by decide) tw_143 rfl rfl ?_
  refine r_iload_n (pc := 4) C 1 dX8_whose_4 rfl rfl ?_
  refine r_callV (pc := 5) (is := [1]) C YX6_hasLoft dX8_whose_5 tw_399 (c_X6_hasLoft l G _ _ _ (by first | assumption | omega | exact zand_rng _ _ | exact zor_rng _ _ | exact zxor_rng _ _ | exact BT.r (IT.b (by assumption)) _ _) (by first | assumption | omega | exact zand_rng _ _ | exact zor_rng _ _ | exact zxor_rng _ _ | exact BT.r (IT.b (by assumption)) _ _)) 1 0 rfl rfl (ci := 6) rfl rfl rfl (by decide) rfl rfl (Nat.le_of_ble_eq_true rfl) ⟨rfl, rfl, by decide, by decide⟩ (jst_i (C_u1 ..) ?_)
  refine r_ifb_eq (pc := 8) (tgt := 21) C dX8_whose_8 (by decide) (fun c8 => ?_) (fun c8 => ?_)
  · refine r_iconst (pc := 21) C dX8_whose_21 ?_
    refine r_istore_n (pc := 22) C 3 dX8_whose_22 rfl (Nat.le_of_ble_eq_true rfl) ?_
    refine r_iload_n (pc := 23) C 3 dX8_whose_23 rfl rfl ?_
    refine r_if_eq (pc := 24) (tgt := 33) C dX8_whose_24 (by decide) (by first | omega | exact zand_rng _ _ | exact zor_rng _ _ | exact zxor_rng _ _ | exact BT.r (IT.b (by assumption)) _ _) (fun c24 => absurd c24 (by omega)) (fun c24 => ?_)
    refine r_aload_n (pc := 27) C 0 dX8_whose_27 rfl rfl ?_
    refine r_iload_n (pc := 28) C 3 dX8_whose_28 rfl rfl ?_
    refine r_callV (pc := 29) (is := [0, 1, 2, 3, 4]) C YX8_refuse dX8_whose_29 tw_185 (c_X8_refuse l G _ _ _ _ _ _ _ (by first | assumption | omega | exact zand_rng _ _ | exact zor_rng _ _ | exact zxor_rng _ _ | exact BT.r (IT.b (by assumption)) _ _)) 0 0 rfl rfl (ci := 8) rfl rfl rfl (by decide) rfl rfl (Nat.le_of_ble_eq_true rfl) ⟨rfl, rfl, by decide, by decide⟩ (jst_i (C_uall ..) ?_)
    exact r_iret (pc := 32) C hQ dX8_whose_32 rfl (fin_noE (by unfold q_lo; (repeat (first | rw [if_pos (by omega)] | rw [if_neg (by omega)])); (try first | rfl | assumption | omega)) (by omega) rfl)
  · refine r_iload_n (pc := 11) C 2 dX8_whose_11 rfl rfl ?_
    refine r_iconst (pc := 12) C dX8_whose_12 ?_
    refine r_bipush (pc := 13) C dX8_whose_13 (by decide) ?_
    refine r_callS (pc := 15) (is := []) C YX8_outside dX8_whose_15 tw_178 (c_X8_outside l G _ _ _ (by first | assumption | omega | exact zand_rng _ _ | exact zor_rng _ _ | exact zxor_rng _ _ | exact BT.r (IT.b (by assumption)) _ _) (by first | assumption | omega | exact zand_rng _ _ | exact zor_rng _ _ | exact zxor_rng _ _ | exact BT.r (IT.b (by assumption)) _ _) (by first | assumption | omega | exact zand_rng _ _ | exact zor_rng _ _ | exact zxor_rng _ _ | exact BT.r (IT.b (by assumption)) _ _)) rfl (by decide) rfl rfl (Nat.le_of_ble_eq_true rfl) ⟨rfl, rfl, by decide, by decide⟩ (jst_i (ups_nil _) ?_)
    have hs15 := sOut_r v 0 18 (by decide)
    refine r_goto (pc := 18) (tgt := 22) C dX8_whose_18 (by decide) ?_
    refine r_istore_n (pc := 22) C 3 dX8_whose_22 rfl (Nat.le_of_ble_eq_true rfl) ?_
    refine r_iload_n (pc := 23) C 3 dX8_whose_23 rfl rfl ?_
    refine r_if_eq (pc := 24) (tgt := 33) C dX8_whose_24 (by decide) (by first | omega | exact zand_rng _ _ | exact zor_rng _ _ | exact zxor_rng _ _ | exact BT.r (IT.b (by assumption)) _ _) (fun c24 => ?_) (fun c24 => ?_)
    · refine r_aload_n (pc := 33) C 0 dX8_whose_33 rfl rfl ?_
      refine r_iload_n (pc := 34) C 2 dX8_whose_34 rfl rfl ?_
      refine r_callV (pc := 35) (is := [0, 1, 2, 3, 4]) C YX8_joinLofts dX8_whose_35 tw_638 (c_X8_joinLofts l G _ _ _ _ _ _ _ (by first | assumption | omega | exact zand_rng _ _ | exact zor_rng _ _ | exact zxor_rng _ _ | exact BT.r (IT.b (by assumption)) _ _) (by first | assumption | omega | exact zand_rng _ _ | exact zor_rng _ _ | exact zxor_rng _ _ | exact BT.r (IT.b (by assumption)) _ _)) 0 0 rfl rfl (ci := 8) rfl rfl rfl (by decide) rfl rfl (Nat.le_of_ble_eq_true rfl) ⟨rfl, rfl, by decide, by decide⟩ ?_
      refine fun o g hq0 _ => ?_
      obtain ⟨rfl, F1, rfl, hjl⟩ := hq0
      show Wc K G _ _ [] (wC G a (up1 X 2 F1) N M P S)
      refine r_aload_n (pc := 38) C 0 dX8_whose_38 rfl rfl ?_
      refine r_get (pc := 39) C 0 0 5 dX8_whose_39 in_X8 rfl rfl (ci := 8) rfl (by decide) tw_148 rfl rfl ?_
      refine r_iload_n (pc := 42) C 1 dX8_whose_42 rfl rfl ?_
      refine r_ialoadE (pc := 43) C 0 2 dX8_whose_43 rfl rfl (by decide) (by omega) (show F1 z = sComp N v z from hjl z (by omega) (by omega)) ?_
      exact r_iret (pc := 44) C hQ dX8_whose_44 rfl (fin_okE (by unfold q_lo; (repeat (first | rw [if_pos (by omega)] | rw [if_neg (by omega)])); (try first | rfl | assumption | omega)) (by rfl) (by exact congrArg (fun Z => wC G a Z N M P S) (up1_e X F1)))
    · refine r_aload_n (pc := 27) C 0 dX8_whose_27 rfl rfl ?_
      refine r_iload_n (pc := 28) C 3 dX8_whose_28 rfl rfl ?_
      refine r_callV (pc := 29) (is := [0, 1, 2, 3, 4]) C YX8_refuse dX8_whose_29 tw_185 (c_X8_refuse l G _ _ _ _ _ _ _ (by first | assumption | omega | exact zand_rng _ _ | exact zor_rng _ _ | exact zxor_rng _ _ | exact BT.r (IT.b (by assumption)) _ _)) 0 0 rfl rfl (ci := 8) rfl rfl rfl (by decide) rfl rfl (Nat.le_of_ble_eq_true rfl) ⟨rfl, rfl, by decide, by decide⟩ (jst_i (C_uall ..) ?_)
      exact r_iret (pc := 32) C hQ dX8_whose_32 rfl (fin_noE (by unfold q_lo; (repeat (first | rw [if_pos (by omega)] | rw [if_neg (by omega)])); (try first | rfl | assumption | omega)) (by omega) rfl)

