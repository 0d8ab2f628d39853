/-! makings: walks -/
def Z0 : Tn := fun _ _ => 0
def T0 : Tn := up Z0 0 3 20
def hL (L : List Nat) : Nat → Nat := fun k => L.getD k 0
theorem flat_T0 : zup (fun _ => (0 : Int)) 3 20 = flat T0 := by
  have h : flat Z0 = fun _ => 0 := by
    funext z
    unfold flat Z0
    split
    · rfl
    · split <;> rfl
  unfold T0
  rw [← flat_u0 Z0 (by decide), h]
/-- all cells of a group hold -/
def PGg (D : va_G) (g : va_W) (H : Heap) : Prop := ∀ q ∈ g, va_at D vwCl q H
def F2 (D : va_G) (H : Heap) : List va_W → List va_W → Prop
  | [], [] => True
  | g :: gs, g' :: gs' => (PGg D g H → PGg D g' H) ∧ F2 D H gs gs'
  | _, _ => False
theorem PG_f2 {D : va_G} {H : Heap} : ∀ {gs gs' : List va_W}, F2 D H gs gs' → PG D gs H → PG D gs' H
  | [], [], _, h => h
  | [], _ :: _, hf, _ => hf.elim
  | _ :: _, [], hf, _ => hf.elim
  | g :: gs, g' :: gs', hf, h => by
    have ih := PG_f2 (gs := gs) (gs' := gs') hf.2 (by
      rw [PG.mem] at h ⊢
      exact fun x hx => h x (List.mem_cons_of_mem _ hx))
    rw [PG.mem] at h ih ⊢
    intro x hx
    rcases List.mem_cons.mp hx with rfl | hx
    · exact hf.1 (fun q hq => h g List.mem_cons_self q hq)
    · exact ih x hx
theorem qa_eq {D : va_G} {H : Heap} {a n : Nat} {c : ClassId} {F F' : Nat → Option Nat} (h : va_at D vwCl (a, qa c n F) H) (e : ∀ k, k < n → F k = F' k) : va_at D vwCl (a, qa c n F') H := by
  have h : H[a]? = some (vp_cell c (n, .inr (.inr (.inr (.inr F))))) := h
  show H[a]? = some (vp_cell c (n, .inr (.inr (.inr (.inr F')))))
  rw [h, vp_cell_q, vp_cell_q]
  congr 1
  unfold arrV
  congr 1
  congr 1
  funext j
  show va_rf (F j.val) = va_rf (F' j.val)
  rw [e j.val j.isLt]
theorem gq_eq {D : va_G} {H : Heap} {a n : Nat} {c : ClassId} {F F' : Nat → Option Nat} (e : ∀ k, k < n → F k = F' k) (h : PGg D [(a, qa c n F)] H) : PGg D [(a, qa c n F')] H := by
  intro q hq
  rcases List.mem_cons.mp hq with rfl | hq
  · exact qa_eq (h _ List.mem_cons_self) e
  · cases hq
theorem gT_cg {D : va_G} {G : GT} {H : Heap} {h h' : Nat → Nat} {T : Tn} (e : ∀ k, k < 15 → h k = h' k) (hP : PGg D (gT G h T) H) : PGg D (gT G h' T) H := by
  have e2 : gT G h' T = (gT G h T).set 1 (h 1, qa G.2.2.1 6 (fun k => some (h' (9 + k)))) := by
    unfold gT
    rw [← e 0 (by decide), ← e 1 (by decide), ← e 2 (by decide), ← e 3 (by decide), ← e 4 (by decide), ← e 5 (by decide), ← e 6 (by decide), ← e 7 (by decide), ← e 8 (by decide), ← e 9 (by decide), ← e 10 (by decide), ← e 11 (by decide), ← e 12 (by decide), ← e 13 (by decide), ← e 14 (by decide)]
    rfl
  rw [e2]
  intro q hq
  rcases List.mem_or_eq_of_mem_set hq with hq | rfl
  · exact hP q hq
  · exact qa_eq (hP _ (List.mem_of_getElem? (i := 1) rfl)) (fun k hk => by rw [e (9 + k) (by omega)])
def aX (b r1 r2 r3 r4 : Nat) (h1 h2 h3 hS : Nat → Nat) : Nat → Nat := fun k => if k < 5 then hL [b, r1, r2, r3, r4] k else if k < 20 then h1 (k - 5) else if k < 35 then h2 (k - 20) else if k < 50 then h3 (k - 35) else hS (k - 50)
set_option maxRecDepth 100000 in
set_option maxHeartbeats 4000000 in
theorem m_X1 (l : Launch) (G : GT) (b : Nat) (e0 : va_E) (sz : Nat) : Cm l yX1_init cX1_init 1 ({ frames := 1, cells := 0, slots := 0, locals := 20 }) G [.ref b] [[(b, e0)]] sz (fun g => g = [[(b, e0)]]) 0 0 := by
  refine Cm_in RX1 [some (.ref b)] (by decide +kernel) rfl rfl rfl rfl (Nat.le_of_ble_eq_true rfl) (fun K C hq => ?_)
  have hA := hq.2.2.1
  refine r_aload_n (pc := 0) C 0 dX1_init_0 rfl rfl ?_
  refine r_objInit (pc := 1) C dX1_init_1 tw_39 tw_25 tw_26 (Nat.le_of_ble_eq_true rfl) ⟨by decide, by decide⟩ ?_
  exact r_mret (pc := 4) C hq dX1_init_4 [0] rfl (by decide) rfl

set_option maxRecDepth 100000 in
set_option maxHeartbeats 4000000 in
theorem m_X2 (l : Launch) (G : GT) (b : Nat) (e0 : va_E) (sz : Nat) : Cm l yX2_init cX2_init 1 ({ frames := 2, cells := 0, slots := 0, locals := 40 }) G [.ref b] [[(b, e0)]] sz (fun g => g = [[(b, e0)]]) 0 0 := by
  refine Cm_in RX2 [some (.ref b)] (by decide +kernel) rfl rfl rfl rfl (Nat.le_of_ble_eq_true rfl) (fun K C hq => ?_)
  have hA := hq.2.2.1
  refine r_aload_n (pc := 0) C 0 dX2_init_0 rfl rfl ?_
  refine r_mkN (pc := 1) (n' := 0) (t' := 0) C hA YBX1_init tw_37 rfl dX2_init_1 tw_46 (fun sz => m_X1 l G b _ sz) [] rfl rfl rfl ⟨by decide, by decide⟩ (Nat.le_of_ble_eq_true rfl) ⟨rfl, rfl, by decide, by decide⟩ (fun g hg => ?_)
  have C := Cf_kat C 0 0 (by decide) (by decide)
  subst hg
  show Wc (kat K 0 0) G 4 _ [] [[(b, e0)]]
  exact r_mret (pc := 4) C hq dX2_init_4 [0] rfl (by decide) rfl

set_option maxRecDepth 100000 in
set_option maxHeartbeats 4000000 in
theorem m_X7 (l : Launch) (G : GT) (b : Nat) (e0 : va_E) (sz : Nat) : Cm l yX7_init cX7_init 1 ({ frames := 2, cells := 0, slots := 0, locals := 40 }) G [.ref b] [[(b, e0)]] sz (fun g => g = [[(b, e0)]]) 0 0 := by
  refine Cm_in RX7 [some (.ref b)] (by decide +kernel) rfl rfl rfl rfl (Nat.le_of_ble_eq_true rfl) (fun K C hq => ?_)
  have hA := hq.2.2.1
  refine r_aload_n (pc := 0) C 0 dX7_init_0 rfl rfl ?_
  refine r_mkN (pc := 1) (n' := 0) (t' := 0) C hA YBX1_init tw_37 rfl dX7_init_1 tw_53 (fun sz => m_X1 l G b _ sz) [] rfl rfl rfl ⟨by decide, by decide⟩ (Nat.le_of_ble_eq_true rfl) ⟨rfl, rfl, by decide, by decide⟩ (fun g hg => ?_)
  have C := Cf_kat C 0 0 (by decide) (by decide)
  subst hg
  show Wc (kat K 0 0) G 4 _ [] [[(b, e0)]]
  exact r_mret (pc := 4) C hq dX7_init_4 [0] rfl (by decide) rfl

set_option maxRecDepth 100000 in
set_option maxHeartbeats 4000000 in
theorem m_X3 (l : Launch) (G : GT) (b : Nat) (e0 : va_E) (sz : Nat) : Cm l yX3_init cX3_init 1 ({ frames := 2, cells := 0, slots := 0, locals := 40 }) G [.ref b] [[(b, e0)]] sz (fun g => g = [[(b, e0)]]) 0 0 := by
  refine Cm_in RX3 [some (.ref b)] (by decide +kernel) rfl rfl rfl rfl (Nat.le_of_ble_eq_true rfl) (fun K C hq => ?_)
  have hA := hq.2.2.1
  refine r_aload_n (pc := 0) C 0 dX3_init_0 rfl rfl ?_
  refine r_mkN (pc := 1) (n' := 0) (t' := 0) C hA YBX1_init tw_37 rfl dX3_init_1 tw_60 (fun sz => m_X1 l G b _ sz) [] rfl rfl rfl ⟨by decide, by decide⟩ (Nat.le_of_ble_eq_true rfl) ⟨rfl, rfl, by decide, by decide⟩ (fun g hg => ?_)
  have C := Cf_kat C 0 0 (by decide) (by decide)
  subst hg
  show Wc (kat K 0 0) G 4 _ [] [[(b, e0)]]
  exact r_mret (pc := 4) C hq dX3_init_4 [0] rfl (by decide) rfl

set_option maxRecDepth 100000 in
set_option maxHeartbeats 4000000 in
theorem m_X0 (l : Launch) (G : GT) (b : Nat) (e0 : va_E) (sz : Nat) : Cm l yX0_init cX0_init 1 ({ frames := 2, cells := 0, slots := 0, locals := 40 }) G [.ref b] [[(b, e0)]] sz (fun g => g = [[(b, e0)]]) 0 0 := by
  refine Cm_in RX0 [some (.ref b)] (by decide +kernel) rfl rfl rfl rfl (Nat.le_of_ble_eq_true rfl) (fun K C hq => ?_)
  have hA := hq.2.2.1
  refine r_aload_n (pc := 0) C 0 dX0_init_0 rfl rfl ?_
  refine r_mkN (pc := 1) (n' := 0) (t' := 0) C hA YBX1_init tw_37 rfl dX0_init_1 tw_67 (fun sz => m_X1 l G b _ sz) [] rfl rfl rfl ⟨by decide, by decide⟩ (Nat.le_of_ble_eq_true rfl) ⟨rfl, rfl, by decide, by decide⟩ (fun g hg => ?_)
  have C := Cf_kat C 0 0 (by decide) (by decide)
  subst hg
  show Wc (kat K 0 0) G 4 _ [] [[(b, e0)]]
  exact r_mret (pc := 4) C hq dX0_init_4 [0] rfl (by decide) rfl

set_option maxRecDepth 100000 in
set_option maxHeartbeats 4000000 in
theorem m_X4 (l : Launch) (G : GT) (b : Nat) (e0 : va_E) (sz : Nat) : Cm l yX4_init cX4_init 1 ({ frames := 3, cells := 0, slots := 0, locals := 60 }) G [.ref b] [[(b, e0)]] sz (fun g => g = [[(b, e0)]]) 0 0 := by
  refine Cm_in RX4 [some (.ref b)] (by decide +kernel) rfl rfl rfl rfl (Nat.le_of_ble_eq_true rfl) (fun K C hq => ?_)
  have hA := hq.2.2.1
  refine r_aload_n (pc := 0) C 0 dX4_init_0 rfl rfl ?_
  refine r_mkN (pc := 1) (n' := 0) (t' := 0) C hA YBX7_init tw_51 rfl dX4_init_1 tw_74 (fun sz => m_X7 l G b _ sz) [] rfl rfl rfl ⟨by decide, by decide⟩ (Nat.le_of_ble_eq_true rfl) ⟨rfl, rfl, by decide, by decide⟩ (fun g hg => ?_)
  have C := Cf_kat C 0 0 (by decide) (by decide)
  subst hg
  show Wc (kat K 0 0) G 4 _ [] [[(b, e0)]]
  exact r_mret (pc := 4) C hq dX4_init_4 [0] rfl (by decide) rfl

set_option maxRecDepth 100000 in
set_option maxHeartbeats 4000000 in
theorem m_X5 (l : Launch) (G : GT) (b : Nat) (sz : Nat) : Cm l yX5_init cX5_init 1 ({ frames := 1, cells := 1, slots := 64, locals := 20 }) G [.ref b] [[(b, .inr (5, [.null, .int (iI 0)]))]] sz (fun g => ∃ h : Nat → Nat, h 0 = b ∧ g = wS G h Z0) 1 64 := by
  refine Cm_in RX5 [some (.ref b)] (by decide +kernel) rfl rfl rfl rfl (Nat.le_of_ble_eq_true rfl) (fun K C hq => ?_)
  have hA := hq.2.2.1
  refine r_aload_n (pc := 0) C 0 dX5_init_0 rfl rfl ?_
  refine r_objInit (pc := 1) C dX5_init_1 tw_134 tw_25 tw_26 (Nat.le_of_ble_eq_true rfl) ⟨by decide, by decide⟩ ?_
  refine r_aload_n (pc := 4) C 0 dX5_init_4 rfl rfl ?_
  refine r_bipush (pc := 5) C dX5_init_5 (by decide) ?_
  refine r_newI (pc := 7) (n' := 1) (t' := 64) C hA 64 dX5_init_7 tx_128 rfl (by decide) rfl rfl ⟨by decide, by decide⟩ (fun q7 => ?_)
  have C := Cf_kat C 1 64 (by decide) (by decide)
  show Wc (kat K 1 64) G 9 _ [.ref q7, .ref b] [[(b, .inr (5, [.null, .int (iI 0)]))], [(q7, ia G.2.1 64 (fun _ => 0))]]
  refine r_putF (pc := 9) C hq.2.2.2 0 0 0 dX5_init_9 in_X5 tyX5_ok nmX5 rfl rfl (ci := 5) rfl (by decide) tw_135 rfl rfl rfl (tyX5_ok 0 (by decide)) rfl rfl (Nat.le_of_ble_eq_true rfl) rfl rfl ?_
  show Wc (kat K 1 64) G 12 _ [] [[(b, .inr (5, [.ref q7, .int (iI 0)]))], [(q7, ia G.2.1 64 (fun _ => 0))]]
  refine r_aload_n (pc := 12) C 0 dX5_init_12 rfl rfl ?_
  refine r_iconst (pc := 13) C dX5_init_13 ?_
  refine r_put (pc := 14) C 0 0 1 dX5_init_14 in_X5 tyX5_ok nmX5 rfl rfl (ci := 5) rfl (by decide) tw_136 rfl rfl (tyX5_ok 1 (by decide)) rfl rfl (Nat.le_of_ble_eq_true rfl) rfl rfl ?_
  show Wc (kat K 1 64) G 17 _ [] [[(b, .inr (5, [.ref q7, .int (iI 0)]))], [(q7, ia G.2.1 64 (fun _ => 0))]]
  exact r_mret (pc := 17) (gs' := wS G (hL [b, q7]) Z0) C hq dX5_init_17 [0, 1] rfl (by decide) ⟨_, rfl, rfl⟩

set_option maxRecDepth 100000 in
set_option maxHeartbeats 4000000 in
theorem m_X6 (l : Launch) (G : GT) (b : Nat) (sz : Nat) : Cm l yX6_init cX6_init 1 ({ frames := 4, cells := 14, slots := 58, locals := 80 }) G [.ref b] [[(b, .inr (6, [.null, .null, .null, .null, .null, .null, .null, .null, .int (iI 0), .int (iI 0), .int (iI 0), .int (iI 0), .int (iI 0)]))]] sz (fun g => ∃ h : Nat → Nat, h 0 = b ∧ g = wT G h T0) 14 58 := by
  refine Cm_in RX6 [some (.ref b)] (by decide +kernel) rfl rfl rfl rfl (Nat.le_of_ble_eq_true rfl) (fun K C hq => ?_)
  have hA := hq.2.2.1
  refine r_aload_n (pc := 0) C 0 dX6_init_0 rfl rfl ?_
  refine r_objInit (pc := 1) C dX6_init_1 tw_32 tw_25 tw_26 (Nat.le_of_ble_eq_true rfl) ⟨by decide, by decide⟩ ?_
  refine r_aload_n (pc := 4) C 0 dX6_init_4 rfl rfl ?_
  refine r_bipush (pc := 5) C dX6_init_5 (by decide) ?_
  refine r_newQ (pc := 7) (n' := 1) (t' := 6) C hA 6 dX6_init_7 tx_33 rfl (by decide) rfl rfl ⟨by decide, by decide⟩ (fun q7 => ?_)
  have C := Cf_kat C 1 6 (by decide) (by decide)
  show Wc (kat K 1 6) G 10 _ [.ref q7, .ref b] [[(b, .inr (6, [.null, .null, .null, .null, .null, .null, .null, .null, .int (iI 0), .int (iI 0), .int (iI 0), .int (iI 0), .int (iI 0)]))], [(q7, qa G.2.2.1 6 (fun _ => none))]]
  refine r_dup (pc := 10) C dX6_init_10 rfl ?_
  refine r_iconst (pc := 11) C dX6_init_11 ?_
  refine r_new (pc := 12) (n' := 2) (t' := 6) (fs := []) (ci := 1) C hA dX6_init_12 in_X1 tyX1_ok tx_33 tx_35 tw_3 rfl (fun j hj => absurd hj (Nat.not_lt_zero j)) rfl rfl ⟨by decide, by decide⟩ (fun q12 => ?_)
  have C := Cf_kat C 2 6 (by decide) (by decide)
  show Wc (kat K 2 6) G 15 _ [.ref q12, .int (iI 0), .ref q7, .ref q7, .ref b] [[(b, .inr (6, [.null, .null, .null, .null, .null, .null, .null, .null, .int (iI 0), .int (iI 0), .int (iI 0), .int (iI 0), .int (iI 0)]))], [(q7, qa G.2.2.1 6 (fun _ => none))], [(q12, .inr (1, []))]]
  refine r_dup (pc := 15) C dX6_init_15 rfl ?_
  refine r_mkN (pc := 16) (n' := 2) (t' := 6) C hA YBX1_init tw_37 rfl dX6_init_16 tw_36 (fun sz => m_X1 l G q12 _ sz) [[(b, .inr (6, [.null, .null, .null, .null, .null, .null, .null, .null, .int (iI 0), .int (iI 0), .int (iI 0), .int (iI 0), .int (iI 0)]))], [(q7, qa G.2.2.1 6 (fun _ => none))]] rfl rfl rfl ⟨by decide, by decide⟩ (Nat.le_of_ble_eq_true rfl) ⟨rfl, rfl, by decide, by decide⟩ (fun g hg => ?_)
  have C := Cf_kat C 2 6 (by decide) (by decide)
  subst hg
  show Wc (kat K 2 6) G 19 _ [.ref q12, .int (iI 0), .ref q7, .ref q7, .ref b] [[(b, .inr (6, [.null, .null, .null, .null, .null, .null, .null, .null, .int (iI 0), .int (iI 0), .int (iI 0), .int (iI 0), .int (iI 0)]))], [(q7, qa G.2.2.1 6 (fun _ => none))], [(q12, .inr (1, []))]]
  refine r_aast (pc := 19) C 1 0 2 0 dX6_init_19 rfl rfl rfl rfl (ci := 1) rfl (fun _ _ h1 h2 => vb_asgS _ _ h1 h2) (by decide) (by decide) rfl rfl ?_
  show Wc (kat K 2 6) G 20 _ [.ref q7, .ref b] [[(b, .inr (6, [.null, .null, .null, .null, .null, .null, .null, .null, .int (iI 0), .int (iI 0), .int (iI 0), .int (iI 0), .int (iI 0)]))], [(q7, qa G.2.2.1 6 (va_up (fun _ => none) 0 (some q12)))], [(q12, .inr (1, []))]]
  refine r_dup (pc := 20) C dX6_init_20 rfl ?_
  refine r_iconst (pc := 21) C dX6_init_21 ?_
  refine r_new (pc := 22) (n' := 3) (t' := 6) (fs := []) (ci := 2) C hA dX6_init_22 in_X2 tyX2_ok tx_41 tx_42 tw_4 rfl (fun j hj => absurd hj (Nat.not_lt_zero j)) rfl rfl ⟨by decide, by decide⟩ (fun q22 => ?_)
  have C := Cf_kat C 3 6 (by decide) (by decide)
  show Wc (kat K 3 6) G 25 _ [.ref q22, .int (iI 1), .ref q7, .ref q7, .ref b] [[(b, .inr (6, [.null, .null, .null, .null, .null, .null, .null, .null, .int (iI 0), .int (iI 0), .int (iI 0), .int (iI 0), .int (iI 0)]))], [(q7, qa G.2.2.1 6 (va_up (fun _ => none) 0 (some q12)))], [(q12, .inr (1, []))], [(q22, .inr (2, []))]]
  refine r_dup (pc := 25) C dX6_init_25 rfl ?_
  refine r_mkN (pc := 26) (n' := 3) (t' := 6) C hA YBX2_init tw_44 rfl dX6_init_26 tw_43 (fun sz => m_X2 l G q22 _ sz) [[(b, .inr (6, [.null, .null, .null, .null, .null, .null, .null, .null, .int (iI 0), .int (iI 0), .int (iI 0), .int (iI 0), .int (iI 0)]))], [(q7, qa G.2.2.1 6 (va_up (fun _ => none) 0 (some q12)))], [(q12, .inr (1, []))]] rfl rfl rfl ⟨by decide, by decide⟩ (Nat.le_of_ble_eq_true rfl) ⟨rfl, rfl, by decide, by decide⟩ (fun g hg => ?_)
  have C := Cf_kat C 3 6 (by decide) (by decide)
  subst hg
  show Wc (kat K 3 6) G 29 _ [.ref q22, .int (iI 1), .ref q7, .ref q7, .ref b] [[(b, .inr (6, [.null, .null, .null, .null, .null, .null, .null, .null, .int (iI 0), .int (iI 0), .int (iI 0), .int (iI 0), .int (iI 0)]))], [(q7, qa G.2.2.1 6 (va_up (fun _ => none) 0 (some q12)))], [(q12, .inr (1, []))], [(q22, .inr (2, []))]]
  refine r_aast (pc := 29) C 1 0 3 0 dX6_init_29 rfl rfl rfl rfl (ci := 2) rfl (fun _ _ => sup_as (C.t _ tw_47) (C.t _ tw_40) _ _) (by decide) (by decide) rfl rfl ?_
  show Wc (kat K 3 6) G 30 _ [.ref q7, .ref b] [[(b, .inr (6, [.null, .null, .null, .null, .null, .null, .null, .null, .int (iI 0), .int (iI 0), .int (iI 0), .int (iI 0), .int (iI 0)]))], [(q7, qa G.2.2.1 6 (va_up (va_up (fun _ => none) 0 (some q12)) 1 (some q22)))], [(q12, .inr (1, []))], [(q22, .inr (2, []))]]
  refine r_dup (pc := 30) C dX6_init_30 rfl ?_
  refine r_iconst (pc := 31) C dX6_init_31 ?_
  refine r_new (pc := 32) (n' := 4) (t' := 6) (fs := []) (ci := 7) C hA dX6_init_32 in_X7 tyX7_ok tx_48 tx_49 tw_5 rfl (fun j hj => absurd hj (Nat.not_lt_zero j)) rfl rfl ⟨by decide, by decide⟩ (fun q32 => ?_)
  have C := Cf_kat C 4 6 (by decide) (by decide)
  show Wc (kat K 4 6) G 35 _ [.ref q32, .int (iI 2), .ref q7, .ref q7, .ref b] [[(b, .inr (6, [.null, .null, .null, .null, .null, .null, .null, .null, .int (iI 0), .int (iI 0), .int (iI 0), .int (iI 0), .int (iI 0)]))], [(q7, qa G.2.2.1 6 (va_up (va_up (fun _ => none) 0 (some q12)) 1 (some q22)))], [(q12, .inr (1, []))], [(q22, .inr (2, []))], [(q32, .inr (7, []))]]
  refine r_dup (pc := 35) C dX6_init_35 rfl ?_
  refine r_mkN (pc := 36) (n' := 4) (t' := 6) C hA YBX7_init tw_51 rfl dX6_init_36 tw_50 (fun sz => m_X7 l G q32 _ sz) [[(b, .inr (6, [.null, .null, .null, .null, .null, .null, .null, .null, .int (iI 0), .int (iI 0), .int (iI 0), .int (iI 0), .int (iI 0)]))], [(q7, qa G.2.2.1 6 (va_up (va_up (fun _ => none) 0 (some q12)) 1 (some q22)))], [(q12, .inr (1, []))], [(q22, .inr (2, []))]] rfl rfl rfl ⟨by decide, by decide⟩ (Nat.le_of_ble_eq_true rfl) ⟨rfl, rfl, by decide, by decide⟩ (fun g hg => ?_)
  have C := Cf_kat C 4 6 (by decide) (by decide)
  subst hg
  show Wc (kat K 4 6) G 39 _ [.ref q32, .int (iI 2), .ref q7, .ref q7, .ref b] [[(b, .inr (6, [.null, .null, .null, .null, .null, .null, .null, .null, .int (iI 0), .int (iI 0), .int (iI 0), .int (iI 0), .int (iI 0)]))], [(q7, qa G.2.2.1 6 (va_up (va_up (fun _ => none) 0 (some q12)) 1 (some q22)))], [(q12, .inr (1, []))], [(q22, .inr (2, []))], [(q32, .inr (7, []))]]
  refine r_aast (pc := 39) C 1 0 4 0 dX6_init_39 rfl rfl rfl rfl (ci := 7) rfl (fun _ _ => sup_as (C.t _ tw_54) (C.t _ tw_40) _ _) (by decide) (by decide) rfl rfl ?_
  show Wc (kat K 4 6) G 40 _ [.ref q7, .ref b] [[(b, .inr (6, [.null, .null, .null, .null, .null, .null, .null, .null, .int (iI 0), .int (iI 0), .int (iI 0), .int (iI 0), .int (iI 0)]))], [(q7, qa G.2.2.1 6 (va_up (va_up (va_up (fun _ => none) 0 (some q12)) 1 (some q22)) 2 (some q32)))], [(q12, .inr (1, []))], [(q22, .inr (2, []))], [(q32, .inr (7, []))]]
  refine r_dup (pc := 40) C dX6_init_40 rfl ?_
  refine r_iconst (pc := 41) C dX6_init_41 ?_
  refine r_new (pc := 42) (n' := 5) (t' := 6) (fs := []) (ci := 3) C hA dX6_init_42 in_X3 tyX3_ok tx_55 tx_56 tw_6 rfl (fun j hj => absurd hj (Nat.not_lt_zero j)) rfl rfl ⟨by decide, by decide⟩ (fun q42 => ?_)
  have C := Cf_kat C 5 6 (by decide) (by decide)
  show Wc (kat K 5 6) G 45 _ [.ref q42, .int (iI 3), .ref q7, .ref q7, .ref b] [[(b, .inr (6, [.null, .null, .null, .null, .null, .null, .null, .null, .int (iI 0), .int (iI 0), .int (iI 0), .int (iI 0), .int (iI 0)]))], [(q7, qa G.2.2.1 6 (va_up (va_up (va_up (fun _ => none) 0 (some q12)) 1 (some q22)) 2 (some q32)))], [(q12, .inr (1, []))], [(q22, .inr (2, []))], [(q32, .inr (7, []))], [(q42, .inr (3, []))]]
  refine r_dup (pc := 45) C dX6_init_45 rfl ?_
  refine r_mkN (pc := 46) (n' := 5) (t' := 6) C hA YBX3_init tw_58 rfl dX6_init_46 tw_57 (fun sz => m_X3 l G q42 _ sz) [[(b, .inr (6, [.null, .null, .null, .null, .null, .null, .null, .null, .int (iI 0), .int (iI 0), .int (iI 0), .int (iI 0), .int (iI 0)]))], [(q7, qa G.2.2.1 6 (va_up (va_up (va_up (fun _ => none) 0 (some q12)) 1 (some q22)) 2 (some q32)))], [(q12, .inr (1, []))], [(q22, .inr (2, []))], [(q32, .inr (7, []))]] rfl rfl rfl ⟨by decide, by decide⟩ (Nat.le_of_ble_eq_true rfl) ⟨rfl, rfl, by decide, by decide⟩ (fun g hg => ?_)
  have C := Cf_kat C 5 6 (by decide) (by decide)
  subst hg
  show Wc (kat K 5 6) G 49 _ [.ref q42, .int (iI 3), .ref q7, .ref q7, .ref b] [[(b, .inr (6, [.null, .null, .null, .null, .null, .null, .null, .null, .int (iI 0), .int (iI 0), .int (iI 0), .int (iI 0), .int (iI 0)]))], [(q7, qa G.2.2.1 6 (va_up (va_up (va_up (fun _ => none) 0 (some q12)) 1 (some q22)) 2 (some q32)))], [(q12, .inr (1, []))], [(q22, .inr (2, []))], [(q32, .inr (7, []))], [(q42, .inr (3, []))]]
  refine r_aast (pc := 49) C 1 0 5 0 dX6_init_49 rfl rfl rfl rfl (ci := 3) rfl (fun _ _ => sup_as (C.t _ tw_61) (C.t _ tw_40) _ _) (by decide) (by decide) rfl rfl ?_
  show Wc (kat K 5 6) G 50 _ [.ref q7, .ref b] [[(b, .inr (6, [.null, .null, .null, .null, .null, .null, .null, .null, .int (iI 0), .int (iI 0), .int (iI 0), .int (iI 0), .int (iI 0)]))], [(q7, qa G.2.2.1 6 (va_up (va_up (va_up (va_up (fun _ => none) 0 (some q12)) 1 (some q22)) 2 (some q32)) 3 (some q42)))], [(q12, .inr (1, []))], [(q22, .inr (2, []))], [(q32, .inr (7, []))], [(q42, .inr (3, []))]]
  refine r_dup (pc := 50) C dX6_init_50 rfl ?_
  refine r_iconst (pc := 51) C dX6_init_51 ?_
  refine r_new (pc := 52) (n' := 6) (t' := 6) (fs := []) (ci := 0) C hA dX6_init_52 in_X0 tyX0_ok tx_62 tx_63 tw_7 rfl (fun j hj => absurd hj (Nat.not_lt_zero j)) rfl rfl ⟨by decide, by decide⟩ (fun q52 => ?_)
  have C := Cf_kat C 6 6 (by decide) (by decide)
  show Wc (kat K 6 6) G 55 _ [.ref q52, .int (iI 4), .ref q7, .ref q7, .ref b] [[(b, .inr (6, [.null, .null, .null, .null, .null, .null, .null, .null, .int (iI 0), .int (iI 0), .int (iI 0), .int (iI 0), .int (iI 0)]))], [(q7, qa G.2.2.1 6 (va_up (va_up (va_up (va_up (fun _ => none) 0 (some q12)) 1 (some q22)) 2 (some q32)) 3 (some q42)))], [(q12, .inr (1, []))], [(q22, .inr (2, []))], [(q32, .inr (7, []))], [(q42, .inr (3, []))], [(q52, .inr (0, []))]]
  refine r_dup (pc := 55) C dX6_init_55 rfl ?_
  refine r_mkN (pc := 56) (n' := 6) (t' := 6) C hA YBX0_init tw_65 rfl dX6_init_56 tw_64 (fun sz => m_X0 l G q52 _ sz) [[(b, .inr (6, [.null, .null, .null, .null, .null, .null, .null, .null, .int (iI 0), .int (iI 0), .int (iI 0), .int (iI 0), .int (iI 0)]))], [(q7, qa G.2.2.1 6 (va_up (va_up (va_up (va_up (fun _ => none) 0 (some q12)) 1 (some q22)) 2 (some q32)) 3 (some q42)))], [(q12, .inr (1, []))], [(q22, .inr (2, []))], [(q32, .inr (7, []))], [(q42, .inr (3, []))]] rfl rfl rfl ⟨by decide, by decide⟩ (Nat.le_of_ble_eq_true rfl) ⟨rfl, rfl, by decide, by decide⟩ (fun g hg => ?_)
  have C := Cf_kat C 6 6 (by decide) (by decide)
  subst hg
  show Wc (kat K 6 6) G 59 _ [.ref q52, .int (iI 4), .ref q7, .ref q7, .ref b] [[(b, .inr (6, [.null, .null, .null, .null, .null, .null, .null, .null, .int (iI 0), .int (iI 0), .int (iI 0), .int (iI 0), .int (iI 0)]))], [(q7, qa G.2.2.1 6 (va_up (va_up (va_up (va_up (fun _ => none) 0 (some q12)) 1 (some q22)) 2 (some q32)) 3 (some q42)))], [(q12, .inr (1, []))], [(q22, .inr (2, []))], [(q32, .inr (7, []))], [(q42, .inr (3, []))], [(q52, .inr (0, []))]]
  refine r_aast (pc := 59) C 1 0 6 0 dX6_init_59 rfl rfl rfl rfl (ci := 0) rfl (fun _ _ => sup_as (C.t _ tw_68) (C.t _ tw_40) _ _) (by decide) (by decide) rfl rfl ?_
  show Wc (kat K 6 6) G 60 _ [.ref q7, .ref b] [[(b, .inr (6, [.null, .null, .null, .null, .null, .null, .null, .null, .int (iI 0), .int (iI 0), .int (iI 0), .int (iI 0), .int (iI 0)]))], [(q7, qa G.2.2.1 6 (va_up (va_up (va_up (va_up (va_up (fun _ => none) 0 (some q12)) 1 (some q22)) 2 (some q32)) 3 (some q42)) 4 (some q52)))], [(q12, .inr (1, []))], [(q22, .inr (2, []))], [(q32, .inr (7, []))], [(q42, .inr (3, []))], [(q52, .inr (0, []))]]
  refine r_dup (pc := 60) C dX6_init_60 rfl ?_
  refine r_iconst (pc := 61) C dX6_init_61 ?_
  refine r_new (pc := 62) (n' := 7) (t' := 6) (fs := []) (ci := 4) C hA dX6_init_62 in_X4 tyX4_ok tx_69 tx_70 tw_8 rfl (fun j hj => absurd hj (Nat.not_lt_zero j)) rfl rfl ⟨by decide, by decide⟩ (fun q62 => ?_)
  have C := Cf_kat C 7 6 (by decide) (by decide)
  show Wc (kat K 7 6) G 65 _ [.ref q62, .int (iI 5), .ref q7, .ref q7, .ref b] [[(b, .inr (6, [.null, .null, .null, .null, .null, .null, .null, .null, .int (iI 0), .int (iI 0), .int (iI 0), .int (iI 0), .int (iI 0)]))], [(q7, qa G.2.2.1 6 (va_up (va_up (va_up (va_up (va_up (fun _ => none) 0 (some q12)) 1 (some q22)) 2 (some q32)) 3 (some q42)) 4 (some q52)))], [(q12, .inr (1, []))], [(q22, .inr (2, []))], [(q32, .inr (7, []))], [(q42, .inr (3, []))], [(q52, .inr (0, []))], [(q62, .inr (4, []))]]
  refine r_dup (pc := 65) C dX6_init_65 rfl ?_
  refine r_mkN (pc := 66) (n' := 7) (t' := 6) C hA YBX4_init tw_72 rfl dX6_init_66 tw_71 (fun sz => m_X4 l G q62 _ sz) [[(b, .inr (6, [.null, .null, .null, .null, .null, .null, .null, .null, .int (iI 0), .int (iI 0), .int (iI 0), .int (iI 0), .int (iI 0)]))], [(q7, qa G.2.2.1 6 (va_up (va_up (va_up (va_up (va_up (fun _ => none) 0 (some q12)) 1 (some q22)) 2 (some q32)) 3 (some q42)) 4 (some q52)))], [(q12, .inr (1, []))], [(q22, .inr (2, []))], [(q32, .inr (7, []))], [(q42, .inr (3, []))], [(q52, .inr (0, []))]] rfl rfl rfl ⟨by decide, by decide⟩ (Nat.le_of_ble_eq_true rfl) ⟨rfl, rfl, by decide, by decide⟩ (fun g hg => ?_)
  have C := Cf_kat C 7 6 (by decide) (by decide)
  subst hg
  show Wc (kat K 7 6) G 69 _ [.ref q62, .int (iI 5), .ref q7, .ref q7, .ref b] [[(b, .inr (6, [.null, .null, .null, .null, .null, .null, .null, .null, .int (iI 0), .int (iI 0), .int (iI 0), .int (iI 0), .int (iI 0)]))], [(q7, qa G.2.2.1 6 (va_up (va_up (va_up (va_up (va_up (fun _ => none) 0 (some q12)) 1 (some q22)) 2 (some q32)) 3 (some q42)) 4 (some q52)))], [(q12, .inr (1, []))], [(q22, .inr (2, []))], [(q32, .inr (7, []))], [(q42, .inr (3, []))], [(q52, .inr (0, []))], [(q62, .inr (4, []))]]
  refine r_aast (pc := 69) C 1 0 7 0 dX6_init_69 rfl rfl rfl rfl (ci := 4) rfl (fun _ _ => sup_as2 (C.t _ tw_75) (C.t _ tw_54) (C.t _ tw_40) _ _) (by decide) (by decide) rfl rfl ?_
  show Wc (kat K 7 6) G 70 _ [.ref q7, .ref b] [[(b, .inr (6, [.null, .null, .null, .null, .null, .null, .null, .null, .int (iI 0), .int (iI 0), .int (iI 0), .int (iI 0), .int (iI 0)]))], [(q7, qa G.2.2.1 6 (va_up (va_up (va_up (va_up (va_up (va_up (fun _ => none) 0 (some q12)) 1 (some q22)) 2 (some q32)) 3 (some q42)) 4 (some q52)) 5 (some q62)))], [(q12, .inr (1, []))], [(q22, .inr (2, []))], [(q32, .inr (7, []))], [(q42, .inr (3, []))], [(q52, .inr (0, []))], [(q62, .inr (4, []))]]
  refine r_putF (pc := 70) C hq.2.2.2 0 0 0 dX6_init_70 in_X6 tyX6_ok nmX6 rfl rfl (ci := 6) rfl (by decide) tw_76 rfl rfl rfl (tyX6_ok 0 (by decide)) rfl rfl (Nat.le_of_ble_eq_true rfl) rfl rfl ?_
  show Wc (kat K 7 6) G 73 _ [] [[(b, .inr (6, [.ref q7, .null, .null, .null, .null, .null, .null, .null, .int (iI 0), .int (iI 0), .int (iI 0), .int (iI 0), .int (iI 0)]))], [(q7, qa G.2.2.1 6 (va_up (va_up (va_up (va_up (va_up (va_up (fun _ => none) 0 (some q12)) 1 (some q22)) 2 (some q32)) 3 (some q42)) 4 (some q52)) 5 (some q62)))], [(q12, .inr (1, []))], [(q22, .inr (2, []))], [(q32, .inr (7, []))], [(q42, .inr (3, []))], [(q52, .inr (0, []))], [(q62, .inr (4, []))]]
  refine r_aload_n (pc := 73) C 0 dX6_init_73 rfl rfl ?_
  refine r_bipush (pc := 74) C dX6_init_74 (by decide) ?_
  refine r_newI (pc := 76) (n' := 8) (t' := 12) C hA 6 dX6_init_76 tx_128 rfl (by decide) rfl rfl ⟨by decide, by decide⟩ (fun q76 => ?_)
  have C := Cf_kat C 8 12 (by decide) (by decide)
  show Wc (kat K 8 12) G 78 _ [.ref q76, .ref b] [[(b, .inr (6, [.ref q7, .null, .null, .null, .null, .null, .null, .null, .int (iI 0), .int (iI 0), .int (iI 0), .int (iI 0), .int (iI 0)]))], [(q7, qa G.2.2.1 6 (va_up (va_up (va_up (va_up (va_up (va_up (fun _ => none) 0 (some q12)) 1 (some q22)) 2 (some q32)) 3 (some q42)) 4 (some q52)) 5 (some q62)))], [(q12, .inr (1, []))], [(q22, .inr (2, []))], [(q32, .inr (7, []))], [(q42, .inr (3, []))], [(q52, .inr (0, []))], [(q62, .inr (4, []))], [(q76, ia G.2.1 6 (fun _ => 0))]]
  refine r_putF (pc := 78) C hq.2.2.2 0 0 1 dX6_init_78 in_X6 tyX6_ok nmX6 rfl rfl (ci := 6) rfl (by decide) tw_77 rfl rfl rfl (tyX6_ok 1 (by decide)) rfl rfl (Nat.le_of_ble_eq_true rfl) rfl rfl ?_
  show Wc (kat K 8 12) G 81 _ [] [[(b, .inr (6, [.ref q7, .ref q76, .null, .null, .null, .null, .null, .null, .int (iI 0), .int (iI 0), .int (iI 0), .int (iI 0), .int (iI 0)]))], [(q7, qa G.2.2.1 6 (va_up (va_up (va_up (va_up (va_up (va_up (fun _ => none) 0 (some q12)) 1 (some q22)) 2 (some q32)) 3 (some q42)) 4 (some q52)) 5 (some q62)))], [(q12, .inr (1, []))], [(q22, .inr (2, []))], [(q32, .inr (7, []))], [(q42, .inr (3, []))], [(q52, .inr (0, []))], [(q62, .inr (4, []))], [(q76, ia G.2.1 6 (fun _ => 0))]]
  refine r_aload_n (pc := 81) C 0 dX6_init_81 rfl rfl ?_
  refine r_bipush (pc := 82) C dX6_init_82 (by decide) ?_
  refine r_newI (pc := 84) (n' := 9) (t' := 18) C hA 6 dX6_init_84 tx_128 rfl (by decide) rfl rfl ⟨by decide, by decide⟩ (fun q84 => ?_)
  have C := Cf_kat C 9 18 (by decide) (by decide)
  show Wc (kat K 9 18) G 86 _ [.ref q84, .ref b] [[(b, .inr (6, [.ref q7, .ref q76, .null, .null, .null, .null, .null, .null, .int (iI 0), .int (iI 0), .int (iI 0), .int (iI 0), .int (iI 0)]))], [(q7, qa G.2.2.1 6 (va_up (va_up (va_up (va_up (va_up (va_up (fun _ => none) 0 (some q12)) 1 (some q22)) 2 (some q32)) 3 (some q42)) 4 (some q52)) 5 (some q62)))], [(q12, .inr (1, []))], [(q22, .inr (2, []))], [(q32, .inr (7, []))], [(q42, .inr (3, []))], [(q52, .inr (0, []))], [(q62, .inr (4, []))], [(q76, ia G.2.1 6 (fun _ => 0))], [(q84, ia G.2.1 6 (fun _ => 0))]]
  refine r_putF (pc := 86) C hq.2.2.2 0 0 2 dX6_init_86 in_X6 tyX6_ok nmX6 rfl rfl (ci := 6) rfl (by decide) tw_79 rfl rfl rfl (tyX6_ok 2 (by decide)) rfl rfl (Nat.le_of_ble_eq_true rfl) rfl rfl ?_
  show Wc (kat K 9 18) G 89 _ [] [[(b, .inr (6, [.ref q7, .ref q76, .ref q84, .null, .null, .null, .null, .null, .int (iI 0), .int (iI 0), .int (iI 0), .int (iI 0), .int (iI 0)]))], [(q7, qa G.2.2.1 6 (va_up (va_up (va_up (va_up (va_up (va_up (fun _ => none) 0 (some q12)) 1 (some q22)) 2 (some q32)) 3 (some q42)) 4 (some q52)) 5 (some q62)))], [(q12, .inr (1, []))], [(q22, .inr (2, []))], [(q32, .inr (7, []))], [(q42, .inr (3, []))], [(q52, .inr (0, []))], [(q62, .inr (4, []))], [(q76, ia G.2.1 6 (fun _ => 0))], [(q84, ia G.2.1 6 (fun _ => 0))]]
  refine r_aload_n (pc := 89) C 0 dX6_init_89 rfl rfl ?_
  refine r_bipush (pc := 90) C dX6_init_90 (by decide) ?_
  refine r_newI (pc := 92) (n' := 10) (t' := 26) C hA 8 dX6_init_92 tx_128 rfl (by decide) rfl rfl ⟨by decide, by decide⟩ (fun q92 => ?_)
  have C := Cf_kat C 10 26 (by decide) (by decide)
  show Wc (kat K 10 26) G 94 _ [.ref q92, .ref b] [[(b, .inr (6, [.ref q7, .ref q76, .ref q84, .null, .null, .null, .null, .null, .int (iI 0), .int (iI 0), .int (iI 0), .int (iI 0), .int (iI 0)]))], [(q7, qa G.2.2.1 6 (va_up (va_up (va_up (va_up (va_up (va_up (fun _ => none) 0 (some q12)) 1 (some q22)) 2 (some q32)) 3 (some q42)) 4 (some q52)) 5 (some q62)))], [(q12, .inr (1, []))], [(q22, .inr (2, []))], [(q32, .inr (7, []))], [(q42, .inr (3, []))], [(q52, .inr (0, []))], [(q62, .inr (4, []))], [(q76, ia G.2.1 6 (fun _ => 0))], [(q84, ia G.2.1 6 (fun _ => 0))], [(q92, ia G.2.1 8 (fun _ => 0))]]
  refine r_putF (pc := 94) C hq.2.2.2 0 0 3 dX6_init_94 in_X6 tyX6_ok nmX6 rfl rfl (ci := 6) rfl (by decide) tw_81 rfl rfl rfl (tyX6_ok 3 (by decide)) rfl rfl (Nat.le_of_ble_eq_true rfl) rfl rfl ?_
  show Wc (kat K 10 26) G 97 _ [] [[(b, .inr (6, [.ref q7, .ref q76, .ref q84, .ref q92, .null, .null, .null, .null, .int (iI 0), .int (iI 0), .int (iI 0), .int (iI 0), .int (iI 0)]))], [(q7, qa G.2.2.1 6 (va_up (va_up (va_up (va_up (va_up (va_up (fun _ => none) 0 (some q12)) 1 (some q22)) 2 (some q32)) 3 (some q42)) 4 (some q52)) 5 (some q62)))], [(q12, .inr (1, []))], [(q22, .inr (2, []))], [(q32, .inr (7, []))], [(q42, .inr (3, []))], [(q52, .inr (0, []))], [(q62, .inr (4, []))], [(q76, ia G.2.1 6 (fun _ => 0))], [(q84, ia G.2.1 6 (fun _ => 0))], [(q92, ia G.2.1 8 (fun _ => 0))]]
  refine r_aload_n (pc := 97) C 0 dX6_init_97 rfl rfl ?_
  refine r_bipush (pc := 98) C dX6_init_98 (by decide) ?_
  refine r_newI (pc := 100) (n' := 11) (t' := 34) C hA 8 dX6_init_100 tx_128 rfl (by decide) rfl rfl ⟨by decide, by decide⟩ (fun q100 => ?_)
  have C := Cf_kat C 11 34 (by decide) (by decide)
  show Wc (kat K 11 34) G 102 _ [.ref q100, .ref b] [[(b, .inr (6, [.ref q7, .ref q76, .ref q84, .ref q92, .null, .null, .null, .null, .int (iI 0), .int (iI 0), .int (iI 0), .int (iI 0), .int (iI 0)]))], [(q7, qa G.2.2.1 6 (va_up (va_up (va_up (va_up (va_up (va_up (fun _ => none) 0 (some q12)) 1 (some q22)) 2 (some q32)) 3 (some q42)) 4 (some q52)) 5 (some q62)))], [(q12, .inr (1, []))], [(q22, .inr (2, []))], [(q32, .inr (7, []))], [(q42, .inr (3, []))], [(q52, .inr (0, []))], [(q62, .inr (4, []))], [(q76, ia G.2.1 6 (fun _ => 0))], [(q84, ia G.2.1 6 (fun _ => 0))], [(q92, ia G.2.1 8 (fun _ => 0))], [(q100, ia G.2.1 8 (fun _ => 0))]]
  refine r_putF (pc := 102) C hq.2.2.2 0 0 4 dX6_init_102 in_X6 tyX6_ok nmX6 rfl rfl (ci := 6) rfl (by decide) tw_83 rfl rfl rfl (tyX6_ok 4 (by decide)) rfl rfl (Nat.le_of_ble_eq_true rfl) rfl rfl ?_
  show Wc (kat K 11 34) G 105 _ [] [[(b, .inr (6, [.ref q7, .ref q76, .ref q84, .ref q92, .ref q100, .null, .null, .null, .int (iI 0), .int (iI 0), .int (iI 0), .int (iI 0), .int (iI 0)]))], [(q7, qa G.2.2.1 6 (va_up (va_up (va_up (va_up (va_up (va_up (fun _ => none) 0 (some q12)) 1 (some q22)) 2 (some q32)) 3 (some q42)) 4 (some q52)) 5 (some q62)))], [(q12, .inr (1, []))], [(q22, .inr (2, []))], [(q32, .inr (7, []))], [(q42, .inr (3, []))], [(q52, .inr (0, []))], [(q62, .inr (4, []))], [(q76, ia G.2.1 6 (fun _ => 0))], [(q84, ia G.2.1 6 (fun _ => 0))], [(q92, ia G.2.1 8 (fun _ => 0))], [(q100, ia G.2.1 8 (fun _ => 0))]]
  refine r_aload_n (pc := 105) C 0 dX6_init_105 rfl rfl ?_
  refine r_bipush (pc := 106) C dX6_init_106 (by decide) ?_
  refine r_newI (pc := 108) (n' := 12) (t' := 42) C hA 8 dX6_init_108 tx_128 rfl (by decide) rfl rfl ⟨by decide, by decide⟩ (fun q108 => ?_)
  have C := Cf_kat C 12 42 (by decide) (by decide)
  show Wc (kat K 12 42) G 110 _ [.ref q108, .ref b] [[(b, .inr (6, [.ref q7, .ref q76, .ref q84, .ref q92, .ref q100, .null, .null, .null, .int (iI 0), .int (iI 0), .int (iI 0), .int (iI 0), .int (iI 0)]))], [(q7, qa G.2.2.1 6 (va_up (va_up (va_up (va_up (va_up (va_up (fun _ => none) 0 (some q12)) 1 (some q22)) 2 (some q32)) 3 (some q42)) 4 (some q52)) 5 (some q62)))], [(q12, .inr (1, []))], [(q22, .inr (2, []))], [(q32, .inr (7, []))], [(q42, .inr (3, []))], [(q52, .inr (0, []))], [(q62, .inr (4, []))], [(q76, ia G.2.1 6 (fun _ => 0))], [(q84, ia G.2.1 6 (fun _ => 0))], [(q92, ia G.2.1 8 (fun _ => 0))], [(q100, ia G.2.1 8 (fun _ => 0))], [(q108, ia G.2.1 8 (fun _ => 0))]]
  refine r_putF (pc := 110) C hq.2.2.2 0 0 5 dX6_init_110 in_X6 tyX6_ok nmX6 rfl rfl (ci := 6) rfl (by decide) tw_85 rfl rfl rfl (tyX6_ok 5 (by decide)) rfl rfl (Nat.le_of_ble_eq_true rfl) rfl rfl ?_
  show Wc (kat K 12 42) G 113 _ [] [[(b, .inr (6, [.ref q7, .ref q76, .ref q84, .ref q92, .ref q100, .ref q108, .null, .null, .int (iI 0), .int (iI 0), .int (iI 0), .int (iI 0), .int (iI 0)]))], [(q7, qa G.2.2.1 6 (va_up (va_up (va_up (va_up (va_up (va_up (fun _ => none) 0 (some q12)) 1 (some q22)) 2 (some q32)) 3 (some q42)) 4 (some q52)) 5 (some q62)))], [(q12, .inr (1, []))], [(q22, .inr (2, []))], [(q32, .inr (7, []))], [(q42, .inr (3, []))], [(q52, .inr (0, []))], [(q62, .inr (4, []))], [(q76, ia G.2.1 6 (fun _ => 0))], [(q84, ia G.2.1 6 (fun _ => 0))], [(q92, ia G.2.1 8 (fun _ => 0))], [(q100, ia G.2.1 8 (fun _ => 0))], [(q108, ia G.2.1 8 (fun _ => 0))]]
  refine r_aload_n (pc := 113) C 0 dX6_init_113 rfl rfl ?_
  refine r_bipush (pc := 114) C dX6_init_114 (by decide) ?_
  refine r_newI (pc := 116) (n' := 13) (t' := 50) C hA 8 dX6_init_116 tx_128 rfl (by decide) rfl rfl ⟨by decide, by decide⟩ (fun q116 => ?_)
  have C := Cf_kat C 13 50 (by decide) (by decide)
  show Wc (kat K 13 50) G 118 _ [.ref q116, .ref b] [[(b, .inr (6, [.ref q7, .ref q76, .ref q84, .ref q92, .ref q100, .ref q108, .null, .null, .int (iI 0), .int (iI 0), .int (iI 0), .int (iI 0), .int (iI 0)]))], [(q7, qa G.2.2.1 6 (va_up (va_up (va_up (va_up (va_up (va_up (fun _ => none) 0 (some q12)) 1 (some q22)) 2 (some q32)) 3 (some q42)) 4 (some q52)) 5 (some q62)))], [(q12, .inr (1, []))], [(q22, .inr (2, []))], [(q32, .inr (7, []))], [(q42, .inr (3, []))], [(q52, .inr (0, []))], [(q62, .inr (4, []))], [(q76, ia G.2.1 6 (fun _ => 0))], [(q84, ia G.2.1 6 (fun _ => 0))], [(q92, ia G.2.1 8 (fun _ => 0))], [(q100, ia G.2.1 8 (fun _ => 0))], [(q108, ia G.2.1 8 (fun _ => 0))], [(q116, ia G.2.1 8 (fun _ => 0))]]
  refine r_putF (pc := 118) C hq.2.2.2 0 0 6 dX6_init_118 in_X6 tyX6_ok nmX6 rfl rfl (ci := 6) rfl (by decide) tw_87 rfl rfl rfl (tyX6_ok 6 (by decide)) rfl rfl (Nat.le_of_ble_eq_true rfl) rfl rfl ?_
  show Wc (kat K 13 50) G 121 _ [] [[(b, .inr (6, [.ref q7, .ref q76, .ref q84, .ref q92, .ref q100, .ref q108, .ref q116, .null, .int (iI 0), .int (iI 0), .int (iI 0), .int (iI 0), .int (iI 0)]))], [(q7, qa G.2.2.1 6 (va_up (va_up (va_up (va_up (va_up (va_up (fun _ => none) 0 (some q12)) 1 (some q22)) 2 (some q32)) 3 (some q42)) 4 (some q52)) 5 (some q62)))], [(q12, .inr (1, []))], [(q22, .inr (2, []))], [(q32, .inr (7, []))], [(q42, .inr (3, []))], [(q52, .inr (0, []))], [(q62, .inr (4, []))], [(q76, ia G.2.1 6 (fun _ => 0))], [(q84, ia G.2.1 6 (fun _ => 0))], [(q92, ia G.2.1 8 (fun _ => 0))], [(q100, ia G.2.1 8 (fun _ => 0))], [(q108, ia G.2.1 8 (fun _ => 0))], [(q116, ia G.2.1 8 (fun _ => 0))]]
  refine r_aload_n (pc := 121) C 0 dX6_init_121 rfl rfl ?_
  refine r_bipush (pc := 122) C dX6_init_122 (by decide) ?_
  refine r_newI (pc := 124) (n' := 14) (t' := 58) C hA 8 dX6_init_124 tx_128 rfl (by decide) rfl rfl ⟨by decide, by decide⟩ (fun q124 => ?_)
  have C := Cf_kat C 14 58 (by decide) (by decide)
  show Wc (kat K 14 58) G 126 _ [.ref q124, .ref b] [[(b, .inr (6, [.ref q7, .ref q76, .ref q84, .ref q92, .ref q100, .ref q108, .ref q116, .null, .int (iI 0), .int (iI 0), .int (iI 0), .int (iI 0), .int (iI 0)]))], [(q7, qa G.2.2.1 6 (va_up (va_up (va_up (va_up (va_up (va_up (fun _ => none) 0 (some q12)) 1 (some q22)) 2 (some q32)) 3 (some q42)) 4 (some q52)) 5 (some q62)))], [(q12, .inr (1, []))], [(q22, .inr (2, []))], [(q32, .inr (7, []))], [(q42, .inr (3, []))], [(q52, .inr (0, []))], [(q62, .inr (4, []))], [(q76, ia G.2.1 6 (fun _ => 0))], [(q84, ia G.2.1 6 (fun _ => 0))], [(q92, ia G.2.1 8 (fun _ => 0))], [(q100, ia G.2.1 8 (fun _ => 0))], [(q108, ia G.2.1 8 (fun _ => 0))], [(q116, ia G.2.1 8 (fun _ => 0))], [(q124, ia G.2.1 8 (fun _ => 0))]]
  refine r_putF (pc := 126) C hq.2.2.2 0 0 7 dX6_init_126 in_X6 tyX6_ok nmX6 rfl rfl (ci := 6) rfl (by decide) tw_89 rfl rfl rfl (tyX6_ok 7 (by decide)) rfl rfl (Nat.le_of_ble_eq_true rfl) rfl rfl ?_
  show Wc (kat K 14 58) G 129 _ [] [[(b, .inr (6, [.ref q7, .ref q76, .ref q84, .ref q92, .ref q100, .ref q108, .ref q116, .ref q124, .int (iI 0), .int (iI 0), .int (iI 0), .int (iI 0), .int (iI 0)]))], [(q7, qa G.2.2.1 6 (va_up (va_up (va_up (va_up (va_up (va_up (fun _ => none) 0 (some q12)) 1 (some q22)) 2 (some q32)) 3 (some q42)) 4 (some q52)) 5 (some q62)))], [(q12, .inr (1, []))], [(q22, .inr (2, []))], [(q32, .inr (7, []))], [(q42, .inr (3, []))], [(q52, .inr (0, []))], [(q62, .inr (4, []))], [(q76, ia G.2.1 6 (fun _ => 0))], [(q84, ia G.2.1 6 (fun _ => 0))], [(q92, ia G.2.1 8 (fun _ => 0))], [(q100, ia G.2.1 8 (fun _ => 0))], [(q108, ia G.2.1 8 (fun _ => 0))], [(q116, ia G.2.1 8 (fun _ => 0))], [(q124, ia G.2.1 8 (fun _ => 0))]]
  refine r_aload_n (pc := 129) C 0 dX6_init_129 rfl rfl ?_
  refine r_iconst (pc := 130) C dX6_init_130 ?_
  refine r_put (pc := 131) C 0 0 8 dX6_init_131 in_X6 tyX6_ok nmX6 rfl rfl (ci := 6) rfl (by decide) tw_91 rfl rfl (tyX6_ok 8 (by decide)) rfl rfl (Nat.le_of_ble_eq_true rfl) rfl rfl ?_
  show Wc (kat K 14 58) G 134 _ [] [[(b, .inr (6, [.ref q7, .ref q76, .ref q84, .ref q92, .ref q100, .ref q108, .ref q116, .ref q124, .int (iI 0), .int (iI 0), .int (iI 0), .int (iI 0), .int (iI 0)]))], [(q7, qa G.2.2.1 6 (va_up (va_up (va_up (va_up (va_up (va_up (fun _ => none) 0 (some q12)) 1 (some q22)) 2 (some q32)) 3 (some q42)) 4 (some q52)) 5 (some q62)))], [(q12, .inr (1, []))], [(q22, .inr (2, []))], [(q32, .inr (7, []))], [(q42, .inr (3, []))], [(q52, .inr (0, []))], [(q62, .inr (4, []))], [(q76, ia G.2.1 6 (fun _ => 0))], [(q84, ia G.2.1 6 (fun _ => 0))], [(q92, ia G.2.1 8 (fun _ => 0))], [(q100, ia G.2.1 8 (fun _ => 0))], [(q108, ia G.2.1 8 (fun _ => 0))], [(q116, ia G.2.1 8 (fun _ => 0))], [(q124, ia G.2.1 8 (fun _ => 0))]]
  refine r_aload_n (pc := 134) C 0 dX6_init_134 rfl rfl ?_
  refine r_iconst (pc := 135) C dX6_init_135 ?_
  refine r_put (pc := 136) C 0 0 9 dX6_init_136 in_X6 tyX6_ok nmX6 rfl rfl (ci := 6) rfl (by decide) tw_93 rfl rfl (tyX6_ok 9 (by decide)) rfl rfl (Nat.le_of_ble_eq_true rfl) rfl rfl ?_
  show Wc (kat K 14 58) G 139 _ [] [[(b, .inr (6, [.ref q7, .ref q76, .ref q84, .ref q92, .ref q100, .ref q108, .ref q116, .ref q124, .int (iI 0), .int (iI 0), .int (iI 0), .int (iI 0), .int (iI 0)]))], [(q7, qa G.2.2.1 6 (va_up (va_up (va_up (va_up (va_up (va_up (fun _ => none) 0 (some q12)) 1 (some q22)) 2 (some q32)) 3 (some q42)) 4 (some q52)) 5 (some q62)))], [(q12, .inr (1, []))], [(q22, .inr (2, []))], [(q32, .inr (7, []))], [(q42, .inr (3, []))], [(q52, .inr (0, []))], [(q62, .inr (4, []))], [(q76, ia G.2.1 6 (fun _ => 0))], [(q84, ia G.2.1 6 (fun _ => 0))], [(q92, ia G.2.1 8 (fun _ => 0))], [(q100, ia G.2.1 8 (fun _ => 0))], [(q108, ia G.2.1 8 (fun _ => 0))], [(q116, ia G.2.1 8 (fun _ => 0))], [(q124, ia G.2.1 8 (fun _ => 0))]]
  refine r_aload_n (pc := 139) C 0 dX6_init_139 rfl rfl ?_
  refine r_iconst (pc := 140) C dX6_init_140 ?_
  refine r_put (pc := 141) C 0 0 10 dX6_init_141 in_X6 tyX6_ok nmX6 rfl rfl (ci := 6) rfl (by decide) tw_95 rfl rfl (tyX6_ok 10 (by decide)) rfl rfl (Nat.le_of_ble_eq_true rfl) rfl rfl ?_
  show Wc (kat K 14 58) G 144 _ [] [[(b, .inr (6, [.ref q7, .ref q76, .ref q84, .ref q92, .ref q100, .ref q108, .ref q116, .ref q124, .int (iI 0), .int (iI 0), .int (iI 0), .int (iI 0), .int (iI 0)]))], [(q7, qa G.2.2.1 6 (va_up (va_up (va_up (va_up (va_up (va_up (fun _ => none) 0 (some q12)) 1 (some q22)) 2 (some q32)) 3 (some q42)) 4 (some q52)) 5 (some q62)))], [(q12, .inr (1, []))], [(q22, .inr (2, []))], [(q32, .inr (7, []))], [(q42, .inr (3, []))], [(q52, .inr (0, []))], [(q62, .inr (4, []))], [(q76, ia G.2.1 6 (fun _ => 0))], [(q84, ia G.2.1 6 (fun _ => 0))], [(q92, ia G.2.1 8 (fun _ => 0))], [(q100, ia G.2.1 8 (fun _ => 0))], [(q108, ia G.2.1 8 (fun _ => 0))], [(q116, ia G.2.1 8 (fun _ => 0))], [(q124, ia G.2.1 8 (fun _ => 0))]]
  refine r_aload_n (pc := 144) C 0 dX6_init_144 rfl rfl ?_
  refine r_bipush (pc := 145) C dX6_init_145 (by decide) ?_
  refine r_put (pc := 147) C 0 0 11 dX6_init_147 in_X6 tyX6_ok nmX6 rfl rfl (ci := 6) rfl (by decide) tw_97 rfl rfl (tyX6_ok 11 (by decide)) rfl rfl (Nat.le_of_ble_eq_true rfl) rfl rfl ?_
  show Wc (kat K 14 58) G 150 _ [] [[(b, .inr (6, [.ref q7, .ref q76, .ref q84, .ref q92, .ref q100, .ref q108, .ref q116, .ref q124, .int (iI 0), .int (iI 0), .int (iI 0), .int (iI 20), .int (iI 0)]))], [(q7, qa G.2.2.1 6 (va_up (va_up (va_up (va_up (va_up (va_up (fun _ => none) 0 (some q12)) 1 (some q22)) 2 (some q32)) 3 (some q42)) 4 (some q52)) 5 (some q62)))], [(q12, .inr (1, []))], [(q22, .inr (2, []))], [(q32, .inr (7, []))], [(q42, .inr (3, []))], [(q52, .inr (0, []))], [(q62, .inr (4, []))], [(q76, ia G.2.1 6 (fun _ => 0))], [(q84, ia G.2.1 6 (fun _ => 0))], [(q92, ia G.2.1 8 (fun _ => 0))], [(q100, ia G.2.1 8 (fun _ => 0))], [(q108, ia G.2.1 8 (fun _ => 0))], [(q116, ia G.2.1 8 (fun _ => 0))], [(q124, ia G.2.1 8 (fun _ => 0))]]
  refine r_aload_n (pc := 150) C 0 dX6_init_150 rfl rfl ?_
  refine r_iconst (pc := 151) C dX6_init_151 ?_
  refine r_put (pc := 152) C 0 0 12 dX6_init_152 in_X6 tyX6_ok nmX6 rfl rfl (ci := 6) rfl (by decide) tw_99 rfl rfl (tyX6_ok 12 (by decide)) rfl rfl (Nat.le_of_ble_eq_true rfl) rfl rfl ?_
  show Wc (kat K 14 58) G 155 _ [] [[(b, .inr (6, [.ref q7, .ref q76, .ref q84, .ref q92, .ref q100, .ref q108, .ref q116, .ref q124, .int (iI 0), .int (iI 0), .int (iI 0), .int (iI 20), .int (iI 0)]))], [(q7, qa G.2.2.1 6 (va_up (va_up (va_up (va_up (va_up (va_up (fun _ => none) 0 (some q12)) 1 (some q22)) 2 (some q32)) 3 (some q42)) 4 (some q52)) 5 (some q62)))], [(q12, .inr (1, []))], [(q22, .inr (2, []))], [(q32, .inr (7, []))], [(q42, .inr (3, []))], [(q52, .inr (0, []))], [(q62, .inr (4, []))], [(q76, ia G.2.1 6 (fun _ => 0))], [(q84, ia G.2.1 6 (fun _ => 0))], [(q92, ia G.2.1 8 (fun _ => 0))], [(q100, ia G.2.1 8 (fun _ => 0))], [(q108, ia G.2.1 8 (fun _ => 0))], [(q116, ia G.2.1 8 (fun _ => 0))], [(q124, ia G.2.1 8 (fun _ => 0))]]
  refine Wc.cong (gs' := [[(b, .inr (6, [.ref q7, .ref q76, .ref q84, .ref q92, .ref q100, .ref q108, .ref q116, .ref q124, .int (iI 0), .int (iI 0), .int (iI 0), .int (iI 20), .int (iI 0)]))], [(q7, qa G.2.2.1 6 (fun k => some (hL [b, q7, q76, q84, q92, q100, q108, q116, q124, q12, q22, q32, q42, q52, q62] (9 + k))))], [(q12, .inr (1, []))], [(q22, .inr (2, []))], [(q32, .inr (7, []))], [(q42, .inr (3, []))], [(q52, .inr (0, []))], [(q62, .inr (4, []))], [(q76, ia G.2.1 6 (fun _ => 0))], [(q84, ia G.2.1 6 (fun _ => 0))], [(q92, ia G.2.1 8 (fun _ => 0))], [(q100, ia G.2.1 8 (fun _ => 0))], [(q108, ia G.2.1 8 (fun _ => 0))], [(q116, ia G.2.1 8 (fun _ => 0))], [(q124, ia G.2.1 8 (fun _ => 0))]]) rfl (fun H hP => PG_f2 ?_ hP) ?_
  · refine ⟨id, ⟨(gq_eq (fun k hk => by rcases (show k = 0 ∨ k = 1 ∨ k = 2 ∨ k = 3 ∨ k = 4 ∨ k = 5 by omega) with rfl | rfl | rfl | rfl | rfl | rfl <;> rfl)), ⟨id, ⟨id, ⟨id, ⟨id, ⟨id, ⟨id, ⟨id, ⟨id, ⟨id, ⟨id, ⟨id, ⟨id, ⟨id, trivial⟩⟩⟩⟩⟩⟩⟩⟩⟩⟩⟩⟩⟩⟩⟩
  exact r_mret (pc := 155) (gs' := wT G (hL [b, q7, q76, q84, q92, q100, q108, q116, q124, q12, q22, q32, q42, q52, q62]) T0) C hq dX6_init_155 [0, 1, 8, 9, 10, 11, 12, 13, 14, 2, 3, 4, 5, 6, 7] rfl (by decide) ⟨_, rfl, rfl⟩

theorem ax_aN (b r1 r2 r3 r4 : Nat) (h1 h2 h3 hS : Nat → Nat) (k : Nat) (hk : k < 15) : h1 k = aN (aX b r1 r2 r3 r4 h1 h2 h3 hS) k := by
  unfold aN aX
  rw [if_neg (by omega), if_pos (by omega), Nat.add_sub_cancel_left]

theorem ax_aM (b r1 r2 r3 r4 : Nat) (h1 h2 h3 hS : Nat → Nat) (k : Nat) (hk : k < 15) : h2 k = aM (aX b r1 r2 r3 r4 h1 h2 h3 hS) k := by
  unfold aM aX
  rw [if_neg (by omega), if_neg (by omega), if_pos (by omega), Nat.add_sub_cancel_left]

theorem ax_aP (b r1 r2 r3 r4 : Nat) (h1 h2 h3 hS : Nat → Nat) (k : Nat) (hk : k < 15) : h3 k = aP (aX b r1 r2 r3 r4 h1 h2 h3 hS) k := by
  unfold aP aX
  rw [if_neg (by omega), if_neg (by omega), if_neg (by omega), if_pos (by omega), Nat.add_sub_cancel_left]

set_option maxRecDepth 100000 in
set_option maxHeartbeats 4000000 in
theorem m_X8 (l : Launch) (G : GT) (b : Nat) (sz : Nat) : Cm l yX8_init cX8_init 1 ({ frames := 5, cells := 51, slots := 308, locals := 100 }) G [.ref b] [[(b, .inr (8, [.null, .null, .null, .null, .null, .null, .null, .null, .int (iI 0), .int (iI 0)]))]] sz (fun g => ∃ a : Nat → Nat, a 0 = b ∧ g = wC G a Z0 T0 T0 T0 Z0) 51 308 := by
  refine Cm_in RX8 [some (.ref b)] (by decide +kernel) rfl rfl rfl rfl (Nat.le_of_ble_eq_true rfl) (fun K C hq => ?_)
  have hA := hq.2.2.1
  refine r_aload_n (pc := 0) C 0 dX8_init_0 rfl rfl ?_
  refine r_objInit (pc := 1) C dX8_init_1 tw_24 tw_25 tw_26 (Nat.le_of_ble_eq_true rfl) ⟨by decide, by decide⟩ ?_
  refine r_aload_n (pc := 4) C 0 dX8_init_4 rfl rfl ?_
  refine r_new (pc := 5) (n' := 1) (t' := 13) (fs := [.null, .null, .null, .null, .null, .null, .null, .null, .int (iI 0), .int (iI 0), .int (iI 0), .int (iI 0), .int (iI 0)]) (ci := 6) C hA dX8_init_5 in_X6 tyX6_ok tx_27 tx_28 tw_2 rfl (fun j hj => by rcases (show j = 0 ∨ j = 1 ∨ j = 2 ∨ j = 3 ∨ j = 4 ∨ j = 5 ∨ j = 6 ∨ j = 7 ∨ j = 8 ∨ j = 9 ∨ j = 10 ∨ j = 11 ∨ j = 12 by omega) with rfl | rfl | rfl | rfl | rfl | rfl | rfl | rfl | rfl | rfl | rfl | rfl | rfl <;> rfl) rfl rfl ⟨by decide, by decide⟩ (fun q5 => ?_)
  have C := Cf_kat C 1 13 (by decide) (by decide)
  show Wc (kat K 1 13) G 8 _ [.ref q5, .ref b] [[(b, .inr (8, [.null, .null, .null, .null, .null, .null, .null, .null, .int (iI 0), .int (iI 0)]))], [(q5, .inr (6, [.null, .null, .null, .null, .null, .null, .null, .null, .int (iI 0), .int (iI 0), .int (iI 0), .int (iI 0), .int (iI 0)]))]]
  refine r_dup (pc := 8) C dX8_init_8 rfl ?_
  refine r_mkN (pc := 9) (n' := 15) (t' := 71) C hA YBX6_init tw_30 rfl dX8_init_9 tw_29 (fun sz => m_X6 l G q5 sz) [[(b, .inr (8, [.null, .null, .null, .null, .null, .null, .null, .null, .int (iI 0), .int (iI 0)]))]] rfl rfl rfl ⟨by decide, by decide⟩ (Nat.le_of_ble_eq_true rfl) ⟨rfl, rfl, by decide, by decide⟩ (fun g hg => ?_)
  have C := Cf_kat C 15 71 (by decide) (by decide)
  obtain ⟨h9, rfl, rfl⟩ := hg
  show Wc (kat K 15 71) G 12 _ [.ref (h9 0), .ref b] [[(b, .inr (8, [.null, .null, .null, .null, .null, .null, .null, .null, .int (iI 0), .int (iI 0)]))], gT G h9 T0]
  refine r_putF (pc := 12) C hq.2.2.2 0 0 0 dX8_init_12 in_X8 tyX8_ok nmX8 rfl rfl (ci := 8) rfl (by decide) tw_143 rfl rfl rfl (tyX8_ok 0 (by decide)) rfl rfl (Nat.le_of_ble_eq_true rfl) rfl rfl ?_
  show Wc (kat K 15 71) G 15 _ [] [[(b, .inr (8, [.ref (h9 0), .null, .null, .null, .null, .null, .null, .null, .int (iI 0), .int (iI 0)]))], gT G h9 T0]
  refine r_aload_n (pc := 15) C 0 dX8_init_15 rfl rfl ?_
  refine r_new (pc := 16) (n' := 16) (t' := 84) (fs := [.null, .null, .null, .null, .null, .null, .null, .null, .int (iI 0), .int (iI 0), .int (iI 0), .int (iI 0), .int (iI 0)]) (ci := 6) C hA dX8_init_16 in_X6 tyX6_ok tx_27 tx_28 tw_2 rfl (fun j hj => by rcases (show j = 0 ∨ j = 1 ∨ j = 2 ∨ j = 3 ∨ j = 4 ∨ j = 5 ∨ j = 6 ∨ j = 7 ∨ j = 8 ∨ j = 9 ∨ j = 10 ∨ j = 11 ∨ j = 12 by omega) with rfl | rfl | rfl | rfl | rfl | rfl | rfl | rfl | rfl | rfl | rfl | rfl | rfl <;> rfl) rfl rfl ⟨by decide, by decide⟩ (fun q16 => ?_)
  have C := Cf_kat C 16 84 (by decide) (by decide)
  show Wc (kat K 16 84) G 19 _ [.ref q16, .ref b] [[(b, .inr (8, [.ref (h9 0), .null, .null, .null, .null, .null, .null, .null, .int (iI 0), .int (iI 0)]))], gT G h9 T0, [(q16, .inr (6, [.null, .null, .null, .null, .null, .null, .null, .null, .int (iI 0), .int (iI 0), .int (iI 0), .int (iI 0), .int (iI 0)]))]]
  refine r_dup (pc := 19) C dX8_init_19 rfl ?_
  refine r_mkN (pc := 20) (n' := 30) (t' := 142) C hA YBX6_init tw_30 rfl dX8_init_20 tw_29 (fun sz => m_X6 l G q16 sz) [[(b, .inr (8, [.ref (h9 0), .null, .null, .null, .null, .null, .null, .null, .int (iI 0), .int (iI 0)]))], gT G h9 T0] rfl rfl rfl ⟨by decide, by decide⟩ (Nat.le_of_ble_eq_true rfl) ⟨rfl, rfl, by decide, by decide⟩ (fun g hg => ?_)
  have C := Cf_kat C 30 142 (by decide) (by decide)
  obtain ⟨h20, rfl, rfl⟩ := hg
  show Wc (kat K 30 142) G 23 _ [.ref (h20 0), .ref b] [[(b, .inr (8, [.ref (h9 0), .null, .null, .null, .null, .null, .null, .null, .int (iI 0), .int (iI 0)]))], gT G h9 T0, gT G h20 T0]
  refine r_putF (pc := 23) C hq.2.2.2 0 0 1 dX8_init_23 in_X8 tyX8_ok nmX8 rfl rfl (ci := 8) rfl (by decide) tw_144 rfl rfl rfl (tyX8_ok 1 (by decide)) rfl rfl (Nat.le_of_ble_eq_true rfl) rfl rfl ?_
  show Wc (kat K 30 142) G 26 _ [] [[(b, .inr (8, [.ref (h9 0), .ref (h20 0), .null, .null, .null, .null, .null, .null, .int (iI 0), .int (iI 0)]))], gT G h9 T0, gT G h20 T0]
  refine r_aload_n (pc := 26) C 0 dX8_init_26 rfl rfl ?_
  refine r_new (pc := 27) (n' := 31) (t' := 155) (fs := [.null, .null, .null, .null, .null, .null, .null, .null, .int (iI 0), .int (iI 0), .int (iI 0), .int (iI 0), .int (iI 0)]) (ci := 6) C hA dX8_init_27 in_X6 tyX6_ok tx_27 tx_28 tw_2 rfl (fun j hj => by rcases (show j = 0 ∨ j = 1 ∨ j = 2 ∨ j = 3 ∨ j = 4 ∨ j = 5 ∨ j = 6 ∨ j = 7 ∨ j = 8 ∨ j = 9 ∨ j = 10 ∨ j = 11 ∨ j = 12 by omega) with rfl | rfl | rfl | rfl | rfl | rfl | rfl | rfl | rfl | rfl | rfl | rfl | rfl <;> rfl) rfl rfl ⟨by decide, by decide⟩ (fun q27 => ?_)
  have C := Cf_kat C 31 155 (by decide) (by decide)
  show Wc (kat K 31 155) G 30 _ [.ref q27, .ref b] [[(b, .inr (8, [.ref (h9 0), .ref (h20 0), .null, .null, .null, .null, .null, .null, .int (iI 0), .int (iI 0)]))], gT G h9 T0, gT G h20 T0, [(q27, .inr (6, [.null, .null, .null, .null, .null, .null, .null, .null, .int (iI 0), .int (iI 0), .int (iI 0), .int (iI 0), .int (iI 0)]))]]
  refine r_dup (pc := 30) C dX8_init_30 rfl ?_
  refine r_mkN (pc := 31) (n' := 45) (t' := 213) C hA YBX6_init tw_30 rfl dX8_init_31 tw_29 (fun sz => m_X6 l G q27 sz) [[(b, .inr (8, [.ref (h9 0), .ref (h20 0), .null, .null, .null, .null, .null, .null, .int (iI 0), .int (iI 0)]))], gT G h9 T0, gT G h20 T0] rfl rfl rfl ⟨by decide, by decide⟩ (Nat.le_of_ble_eq_true rfl) ⟨rfl, rfl, by decide, by decide⟩ (fun g hg => ?_)
  have C := Cf_kat C 45 213 (by decide) (by decide)
  obtain ⟨h31, rfl, rfl⟩ := hg
  show Wc (kat K 45 213) G 34 _ [.ref (h31 0), .ref b] [[(b, .inr (8, [.ref (h9 0), .ref (h20 0), .null, .null, .null, .null, .null, .null, .int (iI 0), .int (iI 0)]))], gT G h9 T0, gT G h20 T0, gT G h31 T0]
  refine r_putF (pc := 34) C hq.2.2.2 0 0 2 dX8_init_34 in_X8 tyX8_ok nmX8 rfl rfl (ci := 8) rfl (by decide) tw_145 rfl rfl rfl (tyX8_ok 2 (by decide)) rfl rfl (Nat.le_of_ble_eq_true rfl) rfl rfl ?_
  show Wc (kat K 45 213) G 37 _ [] [[(b, .inr (8, [.ref (h9 0), .ref (h20 0), .ref (h31 0), .null, .null, .null, .null, .null, .int (iI 0), .int (iI 0)]))], gT G h9 T0, gT G h20 T0, gT G h31 T0]
  refine r_aload_n (pc := 37) C 0 dX8_init_37 rfl rfl ?_
  refine r_new (pc := 38) (n' := 46) (t' := 215) (fs := [.null, .int (iI 0)]) (ci := 5) C hA dX8_init_38 in_X5 tyX5_ok tx_129 tx_130 tw_9 rfl (fun j hj => by rcases (show j = 0 ∨ j = 1 by omega) with rfl | rfl <;> rfl) rfl rfl ⟨by decide, by decide⟩ (fun q38 => ?_)
  have C := Cf_kat C 46 215 (by decide) (by decide)
  show Wc (kat K 46 215) G 41 _ [.ref q38, .ref b] [[(b, .inr (8, [.ref (h9 0), .ref (h20 0), .ref (h31 0), .null, .null, .null, .null, .null, .int (iI 0), .int (iI 0)]))], gT G h9 T0, gT G h20 T0, gT G h31 T0, [(q38, .inr (5, [.null, .int (iI 0)]))]]
  refine r_dup (pc := 41) C dX8_init_41 rfl ?_
  refine r_mkN (pc := 42) (n' := 47) (t' := 279) C hA YBX5_init tw_132 rfl dX8_init_42 tw_131 (fun sz => m_X5 l G q38 sz) [[(b, .inr (8, [.ref (h9 0), .ref (h20 0), .ref (h31 0), .null, .null, .null, .null, .null, .int (iI 0), .int (iI 0)]))], gT G h9 T0, gT G h20 T0, gT G h31 T0] rfl rfl rfl ⟨by decide, by decide⟩ (Nat.le_of_ble_eq_true rfl) ⟨rfl, rfl, by decide, by decide⟩ (fun g hg => ?_)
  have C := Cf_kat C 47 279 (by decide) (by decide)
  obtain ⟨h42, rfl, rfl⟩ := hg
  show Wc (kat K 47 279) G 45 _ [.ref (h42 0), .ref b] [[(b, .inr (8, [.ref (h9 0), .ref (h20 0), .ref (h31 0), .null, .null, .null, .null, .null, .int (iI 0), .int (iI 0)]))], gT G h9 T0, gT G h20 T0, gT G h31 T0, gS G h42 Z0]
  refine r_putF (pc := 45) C hq.2.2.2 0 0 3 dX8_init_45 in_X8 tyX8_ok nmX8 rfl rfl (ci := 8) rfl (by decide) tw_146 rfl rfl rfl (tyX8_ok 3 (by decide)) rfl rfl (Nat.le_of_ble_eq_true rfl) rfl rfl ?_
  show Wc (kat K 47 279) G 48 _ [] [[(b, .inr (8, [.ref (h9 0), .ref (h20 0), .ref (h31 0), .ref (h42 0), .null, .null, .null, .null, .int (iI 0), .int (iI 0)]))], gT G h9 T0, gT G h20 T0, gT G h31 T0, gS G h42 Z0]
  refine r_aload_n (pc := 48) C 0 dX8_init_48 rfl rfl ?_
  refine r_bipush (pc := 49) C dX8_init_49 (by decide) ?_
  refine r_newI (pc := 51) (n' := 48) (t' := 287) C hA 8 dX8_init_51 tx_128 rfl (by decide) rfl rfl ⟨by decide, by decide⟩ (fun q51 => ?_)
  have C := Cf_kat C 48 287 (by decide) (by decide)
  show Wc (kat K 48 287) G 53 _ [.ref q51, .ref b] [[(b, .inr (8, [.ref (h9 0), .ref (h20 0), .ref (h31 0), .ref (h42 0), .null, .null, .null, .null, .int (iI 0), .int (iI 0)]))], gT G h9 T0, gT G h20 T0, gT G h31 T0, gS G h42 Z0, [(q51, ia G.2.1 8 (fun _ => 0))]]
  refine r_putF (pc := 53) C hq.2.2.2 0 0 4 dX8_init_53 in_X8 tyX8_ok nmX8 rfl rfl (ci := 8) rfl (by decide) tw_147 rfl rfl rfl (tyX8_ok 4 (by decide)) rfl rfl (Nat.le_of_ble_eq_true rfl) rfl rfl ?_
  show Wc (kat K 48 287) G 56 _ [] [[(b, .inr (8, [.ref (h9 0), .ref (h20 0), .ref (h31 0), .ref (h42 0), .ref q51, .null, .null, .null, .int (iI 0), .int (iI 0)]))], gT G h9 T0, gT G h20 T0, gT G h31 T0, gS G h42 Z0, [(q51, ia G.2.1 8 (fun _ => 0))]]
  refine r_aload_n (pc := 56) C 0 dX8_init_56 rfl rfl ?_
  refine r_bipush (pc := 57) C dX8_init_57 (by decide) ?_
  refine r_newI (pc := 59) (n' := 49) (t' := 293) C hA 6 dX8_init_59 tx_128 rfl (by decide) rfl rfl ⟨by decide, by decide⟩ (fun q59 => ?_)
  have C := Cf_kat C 49 293 (by decide) (by decide)
  show Wc (kat K 49 293) G 61 _ [.ref q59, .ref b] [[(b, .inr (8, [.ref (h9 0), .ref (h20 0), .ref (h31 0), .ref (h42 0), .ref q51, .null, .null, .null, .int (iI 0), .int (iI 0)]))], gT G h9 T0, gT G h20 T0, gT G h31 T0, gS G h42 Z0, [(q51, ia G.2.1 8 (fun _ => 0))], [(q59, ia G.2.1 6 (fun _ => 0))]]
  refine r_putF (pc := 61) C hq.2.2.2 0 0 5 dX8_init_61 in_X8 tyX8_ok nmX8 rfl rfl (ci := 8) rfl (by decide) tw_148 rfl rfl rfl (tyX8_ok 5 (by decide)) rfl rfl (Nat.le_of_ble_eq_true rfl) rfl rfl ?_
  show Wc (kat K 49 293) G 64 _ [] [[(b, .inr (8, [.ref (h9 0), .ref (h20 0), .ref (h31 0), .ref (h42 0), .ref q51, .ref q59, .null, .null, .int (iI 0), .int (iI 0)]))], gT G h9 T0, gT G h20 T0, gT G h31 T0, gS G h42 Z0, [(q51, ia G.2.1 8 (fun _ => 0))], [(q59, ia G.2.1 6 (fun _ => 0))]]
  refine r_aload_n (pc := 64) C 0 dX8_init_64 rfl rfl ?_
  refine r_bipush (pc := 65) C dX8_init_65 (by decide) ?_
  refine r_newI (pc := 67) (n' := 50) (t' := 301) C hA 8 dX8_init_67 tx_128 rfl (by decide) rfl rfl ⟨by decide, by decide⟩ (fun q67 => ?_)
  have C := Cf_kat C 50 301 (by decide) (by decide)
  show Wc (kat K 50 301) G 69 _ [.ref q67, .ref b] [[(b, .inr (8, [.ref (h9 0), .ref (h20 0), .ref (h31 0), .ref (h42 0), .ref q51, .ref q59, .null, .null, .int (iI 0), .int (iI 0)]))], gT G h9 T0, gT G h20 T0, gT G h31 T0, gS G h42 Z0, [(q51, ia G.2.1 8 (fun _ => 0))], [(q59, ia G.2.1 6 (fun _ => 0))], [(q67, ia G.2.1 8 (fun _ => 0))]]
  refine r_putF (pc := 69) C hq.2.2.2 0 0 6 dX8_init_69 in_X8 tyX8_ok nmX8 rfl rfl (ci := 8) rfl (by decide) tw_149 rfl rfl rfl (tyX8_ok 6 (by decide)) rfl rfl (Nat.le_of_ble_eq_true rfl) rfl rfl ?_
  show Wc (kat K 50 301) G 72 _ [] [[(b, .inr (8, [.ref (h9 0), .ref (h20 0), .ref (h31 0), .ref (h42 0), .ref q51, .ref q59, .ref q67, .null, .int (iI 0), .int (iI 0)]))], gT G h9 T0, gT G h20 T0, gT G h31 T0, gS G h42 Z0, [(q51, ia G.2.1 8 (fun _ => 0))], [(q59, ia G.2.1 6 (fun _ => 0))], [(q67, ia G.2.1 8 (fun _ => 0))]]
  refine r_aload_n (pc := 72) C 0 dX8_init_72 rfl rfl ?_
  refine r_bipush (pc := 73) C dX8_init_73 (by decide) ?_
  refine r_newI (pc := 75) (n' := 51) (t' := 308) C hA 7 dX8_init_75 tx_128 rfl (by decide) rfl rfl ⟨by decide, by decide⟩ (fun q75 => ?_)
  have C := Cf_kat C 51 308 (by decide) (by decide)
  show Wc (kat K 51 308) G 77 _ [.ref q75, .ref b] [[(b, .inr (8, [.ref (h9 0), .ref (h20 0), .ref (h31 0), .ref (h42 0), .ref q51, .ref q59, .ref q67, .null, .int (iI 0), .int (iI 0)]))], gT G h9 T0, gT G h20 T0, gT G h31 T0, gS G h42 Z0, [(q51, ia G.2.1 8 (fun _ => 0))], [(q59, ia G.2.1 6 (fun _ => 0))], [(q67, ia G.2.1 8 (fun _ => 0))], [(q75, ia G.2.1 7 (fun _ => 0))]]
  refine r_putF (pc := 77) C hq.2.2.2 0 0 7 dX8_init_77 in_X8 tyX8_ok nmX8 rfl rfl (ci := 8) rfl (by decide) tw_150 rfl rfl rfl (tyX8_ok 7 (by decide)) rfl rfl (Nat.le_of_ble_eq_true rfl) rfl rfl ?_
  show Wc (kat K 51 308) G 80 _ [] [[(b, .inr (8, [.ref (h9 0), .ref (h20 0), .ref (h31 0), .ref (h42 0), .ref q51, .ref q59, .ref q67, .ref q75, .int (iI 0), .int (iI 0)]))], gT G h9 T0, gT G h20 T0, gT G h31 T0, gS G h42 Z0, [(q51, ia G.2.1 8 (fun _ => 0))], [(q59, ia G.2.1 6 (fun _ => 0))], [(q67, ia G.2.1 8 (fun _ => 0))], [(q75, ia G.2.1 7 (fun _ => 0))]]
  refine r_aload_n (pc := 80) C 0 dX8_init_80 rfl rfl ?_
  refine r_iconst (pc := 81) C dX8_init_81 ?_
  refine r_put (pc := 82) C 0 0 8 dX8_init_82 in_X8 tyX8_ok nmX8 rfl rfl (ci := 8) rfl (by decide) tw_151 rfl rfl (tyX8_ok 8 (by decide)) rfl rfl (Nat.le_of_ble_eq_true rfl) rfl rfl ?_
  show Wc (kat K 51 308) G 85 _ [] [[(b, .inr (8, [.ref (h9 0), .ref (h20 0), .ref (h31 0), .ref (h42 0), .ref q51, .ref q59, .ref q67, .ref q75, .int (iI 0), .int (iI 0)]))], gT G h9 T0, gT G h20 T0, gT G h31 T0, gS G h42 Z0, [(q51, ia G.2.1 8 (fun _ => 0))], [(q59, ia G.2.1 6 (fun _ => 0))], [(q67, ia G.2.1 8 (fun _ => 0))], [(q75, ia G.2.1 7 (fun _ => 0))]]
  refine r_aload_n (pc := 85) C 0 dX8_init_85 rfl rfl ?_
  refine r_iconst (pc := 86) C dX8_init_86 ?_
  refine r_put (pc := 87) C 0 0 9 dX8_init_87 in_X8 tyX8_ok nmX8 rfl rfl (ci := 8) rfl (by decide) tw_152 rfl rfl (tyX8_ok 9 (by decide)) rfl rfl (Nat.le_of_ble_eq_true rfl) rfl rfl ?_
  show Wc (kat K 51 308) G 90 _ [] [[(b, .inr (8, [.ref (h9 0), .ref (h20 0), .ref (h31 0), .ref (h42 0), .ref q51, .ref q59, .ref q67, .ref q75, .int (iI 0), .int (iI 0)]))], gT G h9 T0, gT G h20 T0, gT G h31 T0, gS G h42 Z0, [(q51, ia G.2.1 8 (fun _ => 0))], [(q59, ia G.2.1 6 (fun _ => 0))], [(q67, ia G.2.1 8 (fun _ => 0))], [(q75, ia G.2.1 7 (fun _ => 0))]]
  refine Wc.cong (gs' := [[(b, .inr (8, [.ref (h9 0), .ref (h20 0), .ref (h31 0), .ref (h42 0), .ref q51, .ref q59, .ref q67, .ref q75, .int (iI 0), .int (iI 0)]))], gT G (aN (aX b q51 q59 q67 q75 h9 h20 h31 h42)) T0, gT G (aM (aX b q51 q59 q67 q75 h9 h20 h31 h42)) T0, gT G (aP (aX b q51 q59 q67 q75 h9 h20 h31 h42)) T0, gS G h42 Z0, [(q51, ia G.2.1 8 (fun _ => 0))], [(q59, ia G.2.1 6 (fun _ => 0))], [(q67, ia G.2.1 8 (fun _ => 0))], [(q75, ia G.2.1 7 (fun _ => 0))]]) rfl (fun H hP => PG_f2 ?_ hP) ?_
  · refine ⟨id, ⟨(gT_cg (fun k hk => ax_aN b q51 q59 q67 q75 h9 h20 h31 h42 k hk)), ⟨(gT_cg (fun k hk => ax_aM b q51 q59 q67 q75 h9 h20 h31 h42 k hk)), ⟨(gT_cg (fun k hk => ax_aP b q51 q59 q67 q75 h9 h20 h31 h42 k hk)), ⟨id, ⟨id, ⟨id, ⟨id, ⟨id, trivial⟩⟩⟩⟩⟩⟩⟩⟩⟩
  exact r_mret (pc := 90) (gs' := wC G (aX b q51 q59 q67 q75 h9 h20 h31 h42) Z0 T0 T0 T0 Z0) C hq dX8_init_90 [0, 48, 49, 50, 51, 1, 2, 3, 4, 5, 6, 7, 8, 9, 10, 11, 12, 13, 14, 15, 16, 17, 18, 19, 20, 21, 22, 23, 24, 25, 26, 27, 28, 29, 30, 31, 32, 33, 34, 35, 36, 37, 38, 39, 40, 41, 42, 43, 44, 45, 46, 47] rfl (by decide) ⟨_, rfl, rfl⟩

set_option maxRecDepth 100000 in
set_option maxHeartbeats 4000000 in
theorem m_X9 (l : Launch) (G : GT) (b : Nat) (sz : Nat) : Cm l yX9_init cX9_init 1 ({ frames := 1, cells := 8, slots := 310, locals := 20 }) G [.ref b] [[(b, .inr (9, [.null, .null, .null, .null, .null, .int (iI 0), .null, .null, .int (iI 0), .int (iI 0), .null, .int (iI 0)]))]] sz (fun g => ∃ h : Nat → Nat, h 0 = b ∧ g = wR G h Z0 T0) 8 310 := by
  refine Cm_in RX9 [some (.ref b)] (by decide +kernel) rfl rfl rfl rfl (Nat.le_of_ble_eq_true rfl) (fun K C hq => ?_)
  have hA := hq.2.2.1
  refine r_aload_n (pc := 0) C 0 dX9_init_0 rfl rfl ?_
  refine r_objInit (pc := 1) C dX9_init_1 tw_740 tw_25 tw_26 (Nat.le_of_ble_eq_true rfl) ⟨by decide, by decide⟩ ?_
  refine r_aload_n (pc := 4) C 0 dX9_init_4 rfl rfl ?_
  refine r_bipush (pc := 5) C dX9_init_5 (by decide) ?_
  refine r_newI (pc := 7) (n' := 1) (t' := 7) C hA 7 dX9_init_7 tx_128 rfl (by decide) rfl rfl ⟨by decide, by decide⟩ (fun q7 => ?_)
  have C := Cf_kat C 1 7 (by decide) (by decide)
  show Wc (kat K 1 7) G 9 _ [.ref q7, .ref b] [[(b, .inr (9, [.null, .null, .null, .null, .null, .int (iI 0), .null, .null, .int (iI 0), .int (iI 0), .null, .int (iI 0)]))], [(q7, ia G.2.1 7 (fun _ => 0))]]
  refine r_putF (pc := 9) C hq.2.2.2 0 0 0 dX9_init_9 in_X9 tyX9_ok nmX9 rfl rfl (ci := 9) rfl (by decide) tw_741 rfl rfl rfl (tyX9_ok 0 (by decide)) rfl rfl (Nat.le_of_ble_eq_true rfl) rfl rfl ?_
  show Wc (kat K 1 7) G 12 _ [] [[(b, .inr (9, [.ref q7, .null, .null, .null, .null, .int (iI 0), .null, .null, .int (iI 0), .int (iI 0), .null, .int (iI 0)]))], [(q7, ia G.2.1 7 (fun _ => 0))]]
  refine r_aload_n (pc := 12) C 0 dX9_init_12 rfl rfl ?_
  refine r_bipush (pc := 13) C dX9_init_13 (by decide) ?_
  refine r_newI (pc := 15) (n' := 2) (t' := 64) C hA 57 dX9_init_15 tx_128 rfl (by decide) rfl rfl ⟨by decide, by decide⟩ (fun q15 => ?_)
  have C := Cf_kat C 2 64 (by decide) (by decide)
  show Wc (kat K 2 64) G 17 _ [.ref q15, .ref b] [[(b, .inr (9, [.ref q7, .null, .null, .null, .null, .int (iI 0), .null, .null, .int (iI 0), .int (iI 0), .null, .int (iI 0)]))], [(q7, ia G.2.1 7 (fun _ => 0))], [(q15, ia G.2.1 57 (fun _ => 0))]]
  refine r_putF (pc := 17) C hq.2.2.2 0 0 1 dX9_init_17 in_X9 tyX9_ok nmX9 rfl rfl (ci := 9) rfl (by decide) tw_742 rfl rfl rfl (tyX9_ok 1 (by decide)) rfl rfl (Nat.le_of_ble_eq_true rfl) rfl rfl ?_
  show Wc (kat K 2 64) G 20 _ [] [[(b, .inr (9, [.ref q7, .ref q15, .null, .null, .null, .int (iI 0), .null, .null, .int (iI 0), .int (iI 0), .null, .int (iI 0)]))], [(q7, ia G.2.1 7 (fun _ => 0))], [(q15, ia G.2.1 57 (fun _ => 0))]]
  refine r_aload_n (pc := 20) C 0 dX9_init_20 rfl rfl ?_
  refine r_bipush (pc := 21) C dX9_init_21 (by decide) ?_
  refine r_newI (pc := 23) (n' := 3) (t' := 121) C hA 57 dX9_init_23 tx_128 rfl (by decide) rfl rfl ⟨by decide, by decide⟩ (fun q23 => ?_)
  have C := Cf_kat C 3 121 (by decide) (by decide)
  show Wc (kat K 3 121) G 25 _ [.ref q23, .ref b] [[(b, .inr (9, [.ref q7, .ref q15, .null, .null, .null, .int (iI 0), .null, .null, .int (iI 0), .int (iI 0), .null, .int (iI 0)]))], [(q7, ia G.2.1 7 (fun _ => 0))], [(q15, ia G.2.1 57 (fun _ => 0))], [(q23, ia G.2.1 57 (fun _ => 0))]]
  refine r_putF (pc := 25) C hq.2.2.2 0 0 2 dX9_init_25 in_X9 tyX9_ok nmX9 rfl rfl (ci := 9) rfl (by decide) tw_743 rfl rfl rfl (tyX9_ok 2 (by decide)) rfl rfl (Nat.le_of_ble_eq_true rfl) rfl rfl ?_
  show Wc (kat K 3 121) G 28 _ [] [[(b, .inr (9, [.ref q7, .ref q15, .ref q23, .null, .null, .int (iI 0), .null, .null, .int (iI 0), .int (iI 0), .null, .int (iI 0)]))], [(q7, ia G.2.1 7 (fun _ => 0))], [(q15, ia G.2.1 57 (fun _ => 0))], [(q23, ia G.2.1 57 (fun _ => 0))]]
  refine r_aload_n (pc := 28) C 0 dX9_init_28 rfl rfl ?_
  refine r_bipush (pc := 29) C dX9_init_29 (by decide) ?_
  refine r_newI (pc := 31) (n' := 4) (t' := 178) C hA 57 dX9_init_31 tx_128 rfl (by decide) rfl rfl ⟨by decide, by decide⟩ (fun q31 => ?_)
  have C := Cf_kat C 4 178 (by decide) (by decide)
  show Wc (kat K 4 178) G 33 _ [.ref q31, .ref b] [[(b, .inr (9, [.ref q7, .ref q15, .ref q23, .null, .null, .int (iI 0), .null, .null, .int (iI 0), .int (iI 0), .null, .int (iI 0)]))], [(q7, ia G.2.1 7 (fun _ => 0))], [(q15, ia G.2.1 57 (fun _ => 0))], [(q23, ia G.2.1 57 (fun _ => 0))], [(q31, ia G.2.1 57 (fun _ => 0))]]
  refine r_putF (pc := 33) C hq.2.2.2 0 0 3 dX9_init_33 in_X9 tyX9_ok nmX9 rfl rfl (ci := 9) rfl (by decide) tw_744 rfl rfl rfl (tyX9_ok 3 (by decide)) rfl rfl (Nat.le_of_ble_eq_true rfl) rfl rfl ?_
  show Wc (kat K 4 178) G 36 _ [] [[(b, .inr (9, [.ref q7, .ref q15, .ref q23, .ref q31, .null, .int (iI 0), .null, .null, .int (iI 0), .int (iI 0), .null, .int (iI 0)]))], [(q7, ia G.2.1 7 (fun _ => 0))], [(q15, ia G.2.1 57 (fun _ => 0))], [(q23, ia G.2.1 57 (fun _ => 0))], [(q31, ia G.2.1 57 (fun _ => 0))]]
  refine r_aload_n (pc := 36) C 0 dX9_init_36 rfl rfl ?_
  refine r_bipush (pc := 37) C dX9_init_37 (by decide) ?_
  refine r_newI (pc := 39) (n' := 5) (t' := 235) C hA 57 dX9_init_39 tx_128 rfl (by decide) rfl rfl ⟨by decide, by decide⟩ (fun q39 => ?_)
  have C := Cf_kat C 5 235 (by decide) (by decide)
  show Wc (kat K 5 235) G 41 _ [.ref q39, .ref b] [[(b, .inr (9, [.ref q7, .ref q15, .ref q23, .ref q31, .null, .int (iI 0), .null, .null, .int (iI 0), .int (iI 0), .null, .int (iI 0)]))], [(q7, ia G.2.1 7 (fun _ => 0))], [(q15, ia G.2.1 57 (fun _ => 0))], [(q23, ia G.2.1 57 (fun _ => 0))], [(q31, ia G.2.1 57 (fun _ => 0))], [(q39, ia G.2.1 57 (fun _ => 0))]]
  refine r_putF (pc := 41) C hq.2.2.2 0 0 4 dX9_init_41 in_X9 tyX9_ok nmX9 rfl rfl (ci := 9) rfl (by decide) tw_745 rfl rfl rfl (tyX9_ok 4 (by decide)) rfl rfl (Nat.le_of_ble_eq_true rfl) rfl rfl ?_
  show Wc (kat K 5 235) G 44 _ [] [[(b, .inr (9, [.ref q7, .ref q15, .ref q23, .ref q31, .ref q39, .int (iI 0), .null, .null, .int (iI 0), .int (iI 0), .null, .int (iI 0)]))], [(q7, ia G.2.1 7 (fun _ => 0))], [(q15, ia G.2.1 57 (fun _ => 0))], [(q23, ia G.2.1 57 (fun _ => 0))], [(q31, ia G.2.1 57 (fun _ => 0))], [(q39, ia G.2.1 57 (fun _ => 0))]]
  refine r_aload_n (pc := 44) C 0 dX9_init_44 rfl rfl ?_
  refine r_bipush (pc := 45) C dX9_init_45 (by decide) ?_
  refine r_newI (pc := 47) (n' := 6) (t' := 299) C hA 64 dX9_init_47 tx_128 rfl (by decide) rfl rfl ⟨by decide, by decide⟩ (fun q47 => ?_)
  have C := Cf_kat C 6 299 (by decide) (by decide)
  show Wc (kat K 6 299) G 49 _ [.ref q47, .ref b] [[(b, .inr (9, [.ref q7, .ref q15, .ref q23, .ref q31, .ref q39, .int (iI 0), .null, .null, .int (iI 0), .int (iI 0), .null, .int (iI 0)]))], [(q7, ia G.2.1 7 (fun _ => 0))], [(q15, ia G.2.1 57 (fun _ => 0))], [(q23, ia G.2.1 57 (fun _ => 0))], [(q31, ia G.2.1 57 (fun _ => 0))], [(q39, ia G.2.1 57 (fun _ => 0))], [(q47, ia G.2.1 64 (fun _ => 0))]]
  refine r_putF (pc := 49) C hq.2.2.2 0 0 6 dX9_init_49 in_X9 tyX9_ok nmX9 rfl rfl (ci := 9) rfl (by decide) tw_747 rfl rfl rfl (tyX9_ok 6 (by decide)) rfl rfl (Nat.le_of_ble_eq_true rfl) rfl rfl ?_
  show Wc (kat K 6 299) G 52 _ [] [[(b, .inr (9, [.ref q7, .ref q15, .ref q23, .ref q31, .ref q39, .int (iI 0), .ref q47, .null, .int (iI 0), .int (iI 0), .null, .int (iI 0)]))], [(q7, ia G.2.1 7 (fun _ => 0))], [(q15, ia G.2.1 57 (fun _ => 0))], [(q23, ia G.2.1 57 (fun _ => 0))], [(q31, ia G.2.1 57 (fun _ => 0))], [(q39, ia G.2.1 57 (fun _ => 0))], [(q47, ia G.2.1 64 (fun _ => 0))]]
  refine r_aload_n (pc := 52) C 0 dX9_init_52 rfl rfl ?_
  refine r_iconst (pc := 53) C dX9_init_53 ?_
  refine r_newI (pc := 54) (n' := 7) (t' := 302) C hA 3 dX9_init_54 tx_128 rfl (by decide) rfl rfl ⟨by decide, by decide⟩ (fun q54 => ?_)
  have C := Cf_kat C 7 302 (by decide) (by decide)
  show Wc (kat K 7 302) G 56 _ [.ref q54, .ref b] [[(b, .inr (9, [.ref q7, .ref q15, .ref q23, .ref q31, .ref q39, .int (iI 0), .ref q47, .null, .int (iI 0), .int (iI 0), .null, .int (iI 0)]))], [(q7, ia G.2.1 7 (fun _ => 0))], [(q15, ia G.2.1 57 (fun _ => 0))], [(q23, ia G.2.1 57 (fun _ => 0))], [(q31, ia G.2.1 57 (fun _ => 0))], [(q39, ia G.2.1 57 (fun _ => 0))], [(q47, ia G.2.1 64 (fun _ => 0))], [(q54, ia G.2.1 3 (fun _ => 0))]]
  refine r_putF (pc := 56) C hq.2.2.2 0 0 7 dX9_init_56 in_X9 tyX9_ok nmX9 rfl rfl (ci := 9) rfl (by decide) tw_748 rfl rfl rfl (tyX9_ok 7 (by decide)) rfl rfl (Nat.le_of_ble_eq_true rfl) rfl rfl ?_
  show Wc (kat K 7 302) G 59 _ [] [[(b, .inr (9, [.ref q7, .ref q15, .ref q23, .ref q31, .ref q39, .int (iI 0), .ref q47, .ref q54, .int (iI 0), .int (iI 0), .null, .int (iI 0)]))], [(q7, ia G.2.1 7 (fun _ => 0))], [(q15, ia G.2.1 57 (fun _ => 0))], [(q23, ia G.2.1 57 (fun _ => 0))], [(q31, ia G.2.1 57 (fun _ => 0))], [(q39, ia G.2.1 57 (fun _ => 0))], [(q47, ia G.2.1 64 (fun _ => 0))], [(q54, ia G.2.1 3 (fun _ => 0))]]
  refine r_aload_n (pc := 59) C 0 dX9_init_59 rfl rfl ?_
  refine r_bipush (pc := 60) C dX9_init_60 (by decide) ?_
  refine r_newI (pc := 62) (n' := 8) (t' := 310) C hA 8 dX9_init_62 tx_128 rfl (by decide) rfl rfl ⟨by decide, by decide⟩ (fun q62 => ?_)
  have C := Cf_kat C 8 310 (by decide) (by decide)
  show Wc (kat K 8 310) G 64 _ [.ref q62, .ref b] [[(b, .inr (9, [.ref q7, .ref q15, .ref q23, .ref q31, .ref q39, .int (iI 0), .ref q47, .ref q54, .int (iI 0), .int (iI 0), .null, .int (iI 0)]))], [(q7, ia G.2.1 7 (fun _ => 0))], [(q15, ia G.2.1 57 (fun _ => 0))], [(q23, ia G.2.1 57 (fun _ => 0))], [(q31, ia G.2.1 57 (fun _ => 0))], [(q39, ia G.2.1 57 (fun _ => 0))], [(q47, ia G.2.1 64 (fun _ => 0))], [(q54, ia G.2.1 3 (fun _ => 0))], [(q62, ia G.2.1 8 (fun _ => 0))]]
  refine r_putF (pc := 64) C hq.2.2.2 0 0 10 dX9_init_64 in_X9 tyX9_ok nmX9 rfl rfl (ci := 9) rfl (by decide) tw_751 rfl rfl rfl (tyX9_ok 10 (by decide)) rfl rfl (Nat.le_of_ble_eq_true rfl) rfl rfl ?_
  show Wc (kat K 8 310) G 67 _ [] [[(b, .inr (9, [.ref q7, .ref q15, .ref q23, .ref q31, .ref q39, .int (iI 0), .ref q47, .ref q54, .int (iI 0), .int (iI 0), .ref q62, .int (iI 0)]))], [(q7, ia G.2.1 7 (fun _ => 0))], [(q15, ia G.2.1 57 (fun _ => 0))], [(q23, ia G.2.1 57 (fun _ => 0))], [(q31, ia G.2.1 57 (fun _ => 0))], [(q39, ia G.2.1 57 (fun _ => 0))], [(q47, ia G.2.1 64 (fun _ => 0))], [(q54, ia G.2.1 3 (fun _ => 0))], [(q62, ia G.2.1 8 (fun _ => 0))]]
  refine r_aload_n (pc := 67) C 0 dX9_init_67 rfl rfl ?_
  refine r_get (pc := 68) C 0 0 1 dX9_init_68 in_X9 rfl rfl (ci := 9) rfl (by decide) tw_742 rfl rfl ?_
  refine r_iconst (pc := 71) C dX9_init_71 ?_
  refine r_bipush (pc := 72) C dX9_init_72 (by decide) ?_
  refine r_iastore (pc := 74) C 2 0 dX9_init_74 rfl rfl (by decide) (by decide) rfl rfl ?_
  show Wc (kat K 8 310) G 75 _ [] [[(b, .inr (9, [.ref q7, .ref q15, .ref q23, .ref q31, .ref q39, .int (iI 0), .ref q47, .ref q54, .int (iI 0), .int (iI 0), .ref q62, .int (iI 0)]))], [(q7, ia G.2.1 7 (fun _ => 0))], [(q15, ia G.2.1 57 (zup (fun _ => 0) 3 20))], [(q23, ia G.2.1 57 (fun _ => 0))], [(q31, ia G.2.1 57 (fun _ => 0))], [(q39, ia G.2.1 57 (fun _ => 0))], [(q47, ia G.2.1 64 (fun _ => 0))], [(q54, ia G.2.1 3 (fun _ => 0))], [(q62, ia G.2.1 8 (fun _ => 0))]]
  rw [flat_T0]
  exact r_mret (pc := 75) (gs' := wR G (hL [b, q7, q15, q23, q31, q39, q47, q54, q62]) Z0 T0) C hq dX9_init_75 [0, 1, 2, 3, 4, 5, 6, 7, 8] rfl (by decide) ⟨_, rfl, rfl⟩

