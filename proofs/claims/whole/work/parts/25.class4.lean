/-! the class as a whole -/
def xrf (X : Tn) (q : Int) : Tn := up X 4 (-q) (X 4 (-q) + 1)
theorem fin_okC {G : GT} {a : Nat → Nat} {q x v : Int} {X1 X2 N1 N2 M1 M2 P1 P2 S1 S2 : Tn} {gs : List va_W} (hq : q = 0) (hv : x = v) (hR : gs = wC G a X1 N1 M1 P1 S1) : jst (some (.int (iI (zans q v)))) (wC G a (zif q X1 X2) (zif q N1 N2) (zif q M1 M2) (zif q P1 P2) (zif q S1 S2)) (some (.int (iI x))) gs := by
  subst hv hR
  unfold zans zif
  rw [if_pos hq, if_pos hq, if_pos hq, if_pos hq, if_pos hq, if_pos hq]
  exact ⟨rfl, rfl⟩
theorem fin_noC {G : GT} {a : Nat → Nat} {q c v : Int} {X1 X N1 N M1 M P1 P S1 S : Tn} {gs : List va_W} (hq : q = c) (hc : c ≠ 0) (hR : gs = wC G a (xrf X c) N M P S) : jst (some (.int (iI (zans q v)))) (wC G a (zif q X1 (xrf X q)) (zif q N1 N) (zif q M1 M) (zif q P1 P) (zif q S1 S)) (some (.int (iI c))) gs := by
  subst hq hR
  unfold zans zif
  rw [if_neg hc, if_neg hc, if_neg hc, if_neg hc, if_neg hc, if_neg hc]
  exact ⟨rfl, rfl⟩
def IX (X S : Tn) : Prop := (X 0 1 = 0 ∨ X 0 1 = 1) ∧ (0 ≤ S 0 0 ∧ S 0 0 ≤ 64) ∧ (0 ≤ X 0 0 ∧ X 0 0 ≤ 8) ∧ (∀ j, 0 ≤ S 1 j ∧ S 1 j ≤ 255) ∧ (∀ j, 0 ≤ X 1 j ∧ X 1 j ≤ 9)
theorem zbit_r (s d : Int) : 0 ≤ zbit s d ∧ zbit s d ≤ 1 := by
  unfold zbit
  omega
theorem zx_k : ∀ s : Nat, s < 64 → ∀ d : Nat, d < 6 → zxor (s : Int) (1 * zp2 (d : Int)) = if zbit (s : Int) (d : Int) = 1 then (s : Int) - zp2 (d : Int) else (s : Int) + zp2 (d : Int) := by decide +kernel
theorem zx_s {s d : Int} (hs : 0 ≤ s ∧ s < 64) (hd : 0 ≤ d ∧ d < 6) : zxor s (1 * zp2 d) = if zbit s d = 1 then s - zp2 d else s + zp2 d := by
  have := zx_k s.toNat (by omega) d.toNat (by omega)
  rw [show (s.toNat : Int) = s by omega, show (d.toNat : Int) = d by omega] at this
  exact this
theorem sGo_m {T : Tn} {d : Int} (hw : sFly T d ≠ 9 → sWay T (T 6 d) (sFly T d) ≤ 18) : sGo T d 99 = up T 6 d (if sFly T d = 9 then T 6 d else sFly T d) := by
  unfold sGo
  by_cases e : sFly T d = 9
  · rw [if_pos e, if_pos e, up_same rfl]
  · have := hw e
    rw [if_neg e, if_neg (by omega), if_neg e]
theorem sGo_w {T : Tn} (hI : IT T) {d : Int} (hd : 0 ≤ d ∧ d < T 0 1) : sFly T d ≠ 9 → sWay T (T 6 d) (sFly T d) ≤ 18 := fun e => by
  have hdd := hI.d hd.1 hd.2
  have hff := sFly_r hI hd.1 hd.2
  by_cases e9 : T 6 d = 9
  · exact absurd (by unfold sFly; rw [if_pos e9]) e
  · exact (sWay_r hI (a := T 6 d) (b := sFly T d) (by omega) (by omega)).2
set_option maxRecDepth 100000 in
set_option maxHeartbeats 4000000 in
theorem c_X5_isFull (l : Launch) (G : GT) (h : Nat → Nat) (S : Tn) (hs0 : 0 ≤ S 0 0 ∧ S 0 0 ≤ 64) : Cn l yX5_isFull cX5_isFull 1 (Option.some .boolean) ({ frames := 0, cells := 0, slots := 0, locals := 0 }) G [.ref (h 0)] (wS G h S) (jst (some (.int (iI (zb (64 ≤ S 0 0))))) (wS G h S)) := by
  refine Cn_in RX5 [some (.ref (h 0))] (by decide +kernel) rfl rfl rfl (Nat.le_of_ble_eq_true rfl) (fun K C hQ => ?_)
  refine r_aload_n (pc := 0) C 0 dX5_isFull_0 rfl rfl ?_
  refine r_get (pc := 1) C 0 0 1 dX5_isFull_1 in_X5 rfl rfl (ci := 5) rfl (by decide) tw_136 rfl rfl ?_
  refine r_aload_n (pc := 4) C 0 dX5_isFull_4 rfl rfl ?_
  refine r_get (pc := 5) C 0 0 0 dX5_isFull_5 in_X5 rfl rfl (ci := 5) rfl (by decide) tw_135 rfl rfl ?_
  refine r_ilen (pc := 8) C 0 1 dX5_isFull_8 rfl rfl ?_
  refine r_icmp_lt (pc := 9) (tgt := 16) C dX5_isFull_9 (by decide) (by first | omega | exact zand_rng _ _ | exact zor_rng _ _ | exact zxor_rng _ _ | exact BT.r (IT.b (by assumption)) _ _) (by first | omega | exact zand_rng _ _ | exact zor_rng _ _ | exact zxor_rng _ _ | exact BT.r (IT.b (by assumption)) _ _) (fun c9 => ?_) (fun c9 => ?_)
  · refine r_iconst (pc := 16) C dX5_isFull_16 ?_
    exact r_zret (pc := 17) C hQ dX5_isFull_17 (by decide) rfl (jst_ri (by exact (zb_f (by omega)).symm) rfl)
  · refine r_iconst (pc := 12) C dX5_isFull_12 ?_
    refine r_goto (pc := 13) (tgt := 17) C dX5_isFull_13 (by decide) ?_
    exact r_zret (pc := 17) C hQ dX5_isFull_17 (by decide) rfl (jst_ri (by exact (zb_t (by omega)).symm) rfl)

set_option maxRecDepth 100000 in
set_option maxHeartbeats 4000000 in
theorem c_X5_add (l : Launch) (G : GT) (h : Nat → Nat) (S : Tn) (c : Int) (hs0 : 0 ≤ S 0 0 ∧ S 0 0 ≤ 64) (gc : -2147483648 ≤ c ∧ c < 2147483648) : Cn l yX5_add cX5_add 2 none ({ frames := 1, cells := 0, slots := 0, locals := 20 }) G [.ref (h 0), .int (iI c)] (wS G h S) (jst none (wS G h (if S 0 0 < 64 then up (up S 1 (S 0 0) c) 0 0 (S 0 0 + 1) else S))) := by
  refine Cn_in RX5 [some (.ref (h 0)), some (.int (iI c))] (by decide +kernel) rfl rfl rfl (Nat.le_of_ble_eq_true rfl) (fun K C hQ => ?_)
  refine r_aload_n (pc := 0) C 0 dX5_add_0 rfl rfl ?_
  refine r_callV (pc := 1) (is := [0]) C YX5_isFull dX5_add_1 tw_193 (c_X5_isFull l G _ _ (by first | assumption | omega | exact zand_rng _ _ | exact zor_rng _ _ | exact zxor_rng _ _ | exact BT.r (IT.b (by assumption)) _ _)) 0 0 rfl rfl (ci := 5) rfl rfl rfl (by decide) rfl rfl (Nat.le_of_ble_eq_true rfl) ⟨rfl, rfl, by decide, by decide⟩ (jst_i (S_uall ..) ?_)
  refine r_ifb_ne (pc := 4) (tgt := 27) C dX5_add_4 (by decide) (fun c4 => ?_) (fun c4 => ?_)
  · exact r_vret (pc := 27) C hQ dX5_add_27 rfl (jst_rv (by first | (rw [if_pos (by omega)]; done) | (rw [if_pos (by omega)]; rfl) | (rw [if_neg (by omega)]; done) | (rw [if_neg (by omega)]; rfl)))
  · refine r_aload_n (pc := 7) C 0 dX5_add_7 rfl rfl ?_
    refine r_get (pc := 8) C 0 0 0 dX5_add_8 in_X5 rfl rfl (ci := 5) rfl (by decide) tw_135 rfl rfl ?_
    refine r_aload_n (pc := 11) C 0 dX5_add_11 rfl rfl ?_
    refine r_get (pc := 12) C 0 0 1 dX5_add_12 in_X5 rfl rfl (ci := 5) rfl (by decide) tw_136 rfl rfl ?_
    refine r_iload_n (pc := 15) C 1 dX5_add_15 rfl rfl ?_
    refine r_iastore (pc := 16) C 0 1 dX5_add_16 rfl rfl (by decide) (by omega) rfl (S_a0_1 ..) ?_
    refine r_aload_n (pc := 17) C 0 dX5_add_17 rfl rfl ?_
    refine r_dup (pc := 18) C dX5_add_18 rfl ?_
    refine r_get (pc := 19) C 0 0 1 dX5_add_19 in_X5 rfl rfl (ci := 5) rfl (by decide) tw_136 rfl rfl ?_
    refine r_iconst (pc := 22) C dX5_add_22 ?_
    refine r_iadd (pc := 23) C dX5_add_23 ?_
    refine r_put (pc := 24) C 0 0 1 dX5_add_24 in_X5 tyX5_ok nmX5 rfl rfl (ci := 5) rfl (by decide) tw_136 rfl rfl (tyX5_ok 1 (by decide)) rfl rfl (Nat.le_of_ble_eq_true rfl) rfl (S_p0_1 ..) ?_
    exact r_vret (pc := 27) C hQ dX5_add_27 rfl (jst_rv (by first | (rw [if_pos (by omega)]; done) | (rw [if_pos (by omega)]; rfl) | (rw [if_neg (by omega)]; done) | (rw [if_neg (by omega)]; rfl)))

set_option maxRecDepth 100000 in
set_option maxHeartbeats 4000000 in
theorem c_X5_clear (l : Launch) (G : GT) (h : Nat → Nat) (S : Tn)  : Cn l yX5_clear cX5_clear 1 none ({ frames := 0, cells := 0, slots := 0, locals := 0 }) G [.ref (h 0)] (wS G h S) (jst none (wS G h (up S 0 0 0))) := by
  refine Cn_in RX5 [some (.ref (h 0))] (by decide +kernel) rfl rfl rfl (Nat.le_of_ble_eq_true rfl) (fun K C hQ => ?_)
  refine r_aload_n (pc := 0) C 0 dX5_clear_0 rfl rfl ?_
  refine r_iconst (pc := 1) C dX5_clear_1 ?_
  refine r_put (pc := 2) C 0 0 1 dX5_clear_2 in_X5 tyX5_ok nmX5 rfl rfl (ci := 5) rfl (by decide) tw_136 rfl rfl (tyX5_ok 1 (by decide)) rfl rfl (Nat.le_of_ble_eq_true rfl) rfl (S_p0_1 ..) ?_
  exact r_vret (pc := 5) C hQ dX5_clear_5 rfl (jst_rv rfl)

set_option maxRecDepth 100000 in
set_option maxHeartbeats 4000000 in
theorem c_X8_refuse (l : Launch) (G : GT) (a : Nat → Nat) (X N M P S : Tn) (c : Int) (hc : -6 ≤ c ∧ c ≤ -1) : Cn l yX8_refuse cX8_refuse 3 (Option.some .int) ({ frames := 0, cells := 0, slots := 0, locals := 0 }) G [.ref (a 0), .int (iI c)] (wC G a X N M P S) (jst (some (.int (iI (c)))) (wC G a (xrf X c) N M P S)) := by
  refine Cn_in RX8 [some (.ref (a 0)), some (.int (iI c)), none] (by decide +kernel) rfl rfl rfl (Nat.le_of_ble_eq_true rfl) (fun K C hQ => ?_)
  refine r_iload_n (pc := 0) C 1 dX8_refuse_0 rfl rfl ?_
  refine r_ineg (pc := 1) C dX8_refuse_1 ?_
  refine r_istore_n (pc := 2) C 2 dX8_refuse_2 rfl (Nat.le_of_ble_eq_true rfl) ?_
  refine r_iload_n (pc := 3) C 2 dX8_refuse_3 rfl rfl ?_
  refine r_if_le (pc := 4) (tgt := 26) C dX8_refuse_4 (by decide) (by first | omega | exact zand_rng _ _ | exact zor_rng _ _ | exact zxor_rng _ _ | exact BT.r (IT.b (by assumption)) _ _) (fun c4 => absurd c4 (by omega)) (fun c4 => ?_)
  refine r_iload_n (pc := 7) C 2 dX8_refuse_7 rfl rfl ?_
  refine r_aload_n (pc := 8) C 0 dX8_refuse_8 rfl rfl ?_
  refine r_get (pc := 9) C 0 0 7 dX8_refuse_9 in_X8 rfl rfl (ci := 8) rfl (by decide) tw_150 rfl rfl ?_
  refine r_ilen (pc := 12) C 0 4 dX8_refuse_12 rfl rfl ?_
  refine r_icmp_ge (pc := 13) (tgt := 26) C dX8_refuse_13 (by decide) (by first | omega | exact zand_rng _ _ | exact zor_rng _ _ | exact zxor_rng _ _ | exact BT.r (IT.b (by assumption)) _ _) (by first | omega | exact zand_rng _ _ | exact zor_rng _ _ | exact zxor_rng _ _ | exact BT.r (IT.b (by assumption)) _ _) (fun c13 => absurd c13 (by omega)) (fun c13 => ?_)
  refine r_aload_n (pc := 16) C 0 dX8_refuse_16 rfl rfl ?_
  refine r_get (pc := 17) C 0 0 7 dX8_refuse_17 in_X8 rfl rfl (ci := 8) rfl (by decide) tw_150 rfl rfl ?_
  refine r_iload_n (pc := 20) C 2 dX8_refuse_20 rfl rfl ?_
  refine r_dup2 (pc := 21) C dX8_refuse_21 rfl rfl ?_
  refine r_iaload (pc := 22) C 0 4 dX8_refuse_22 rfl rfl (by decide) (by omega) ?_
  refine r_iconst (pc := 23) C dX8_refuse_23 ?_
  refine r_iadd (pc := 24) C dX8_refuse_24 ?_
  refine r_iastore (pc := 25) C 0 4 dX8_refuse_25 rfl rfl (by decide) (by omega) rfl (C_a0_4 ..) ?_
  refine r_iload_n (pc := 26) C 1 dX8_refuse_26 rfl rfl ?_
  exact r_iret (pc := 27) C hQ dX8_refuse_27 rfl (jst_ri (by first | rfl | omega) rfl)

set_option maxRecDepth 100000 in
set_option maxHeartbeats 4000000 in
theorem c_X8_letter (l : Launch) (G : GT) (a : Nat → Nat) (X N M P S : Tn) (c : Int) (hI : IT N) (hX : IX X S) (gc : -2147483648 ≤ c ∧ c < 2147483648) : Cn l yX8_letter cX8_letter 3 (Option.some .int) ({ frames := 2, cells := 0, slots := 0, locals := 41 }) G [.ref (a 0), .int (iI c)] (wC G a X N M P S) (jst (some (.int (iI (zans (q_letter c (S 0 0)) (S 0 0 + 1))))) (wC G a (zif (q_letter c (S 0 0)) (X) (xrf X (q_letter c (S 0 0)))) (zif (q_letter c (S 0 0)) (N) N) (zif (q_letter c (S 0 0)) (M) M) (zif (q_letter c (S 0 0)) (P) P) (zif (q_letter c (S 0 0)) (up (up S 1 (S 0 0) c) 0 0 (S 0 0 + 1)) S))) := by
  refine Cn_in RX8 [some (.ref (a 0)), some (.int (iI c)), none] (by decide +kernel) rfl rfl rfl (Nat.le_of_ble_eq_true rfl) (fun K C hQ => ?_)
  obtain ⟨x1, s1, x3, s6, x8⟩ := hX
  have hBB := hI.b
  have hLL := hI.L
  have hDD := hI.D
  have hkk := hI.k
  refine r_iload_n (pc := 0) C 1 dX8_letter_0 rfl rfl ?_
  refine r_iconst (pc := 1) C dX8_letter_1 ?_
  refine r_sipush (pc := 2) C dX8_letter_2 (by decide) ?_
  refine r_callS (pc := 5) (is := []) C YX8_outside dX8_letter_5 tw_178 (c_X8_outside l G _ _ _ (by first | assumption | omega | exact zand_rng _ _ | exact zor_rng _ _ | exact zxor_rng _ _ | exact BT.r (IT.b (by assumption)) _ _) (by first | assumption | omega | exact zand_rng _ _ | exact zor_rng _ _ | exact zxor_rng _ _ | exact BT.r (IT.b (by assumption)) _ _) (by first | assumption | omega | exact zand_rng _ _ | exact zor_rng _ _ | exact zxor_rng _ _ | exact BT.r (IT.b (by assumption)) _ _)) rfl (by decide) rfl rfl (Nat.le_of_ble_eq_true rfl) ⟨rfl, rfl, by decide, by decide⟩ (jst_i (ups_nil _) ?_)
  have hs5 := sOut_r c 0 255 (by decide)
  refine r_istore_n (pc := 8) C 2 dX8_letter_8 rfl (Nat.le_of_ble_eq_true rfl) ?_
  refine r_iload_n (pc := 9) C 2 dX8_letter_9 rfl rfl ?_
  refine r_if_ne (pc := 10) (tgt := 26) C dX8_letter_10 (by decide) (by first | omega | exact zand_rng _ _ | exact zor_rng _ _ | exact zxor_rng _ _ | exact BT.r (IT.b (by assumption)) _ _) (fun c10 => ?_) (fun c10 => ?_)
  · refine r_iload_n (pc := 26) C 2 dX8_letter_26 rfl rfl ?_
    refine r_if_eq (pc := 27) (tgt := 36) C dX8_letter_27 (by decide) (by first | omega | exact zand_rng _ _ | exact zor_rng _ _ | exact zxor_rng _ _ | exact BT.r (IT.b (by assumption)) _ _) (fun c27 => ?_) (fun c27 => ?_)
    · refine r_aload_n (pc := 36) C 0 dX8_letter_36 rfl rfl ?_
      refine r_get (pc := 37) C 0 0 3 dX8_letter_37 in_X8 rfl rfl (ci := 8) rfl (by decide) tw_146 rfl rfl ?_
      refine r_iload_n (pc := 40) C 1 dX8_letter_40 rfl rfl ?_
      refine r_callV (pc := 41) (is := [4]) C YX5_add dX8_letter_41 tw_189 (c_X5_add l G _ _ _ (by first | assumption | omega | exact zand_rng _ _ | exact zor_rng _ _ | exact zxor_rng _ _ | exact BT.r (IT.b (by assumption)) _ _) (by first | assumption | omega | exact zand_rng _ _ | exact zor_rng _ _ | exact zxor_rng _ _ | exact BT.r (IT.b (by assumption)) _ _)) 4 0 rfl rfl (ci := 5) rfl rfl rfl (by decide) rfl rfl (Nat.le_of_ble_eq_true rfl) ⟨rfl, rfl, by decide, by decide⟩ (jst_v (C_u4 ..) ?_)
      refine r_aload_n (pc := 44) C 0 dX8_letter_44 rfl rfl ?_
      refine r_get (pc := 45) C 0 0 3 dX8_letter_45 in_X8 rfl rfl (ci := 8) rfl (by decide) tw_146 rfl rfl ?_
      refine r_get (pc := 48) C 4 0 1 dX8_letter_48 in_X5 rfl rfl (ci := 5) rfl (by decide) tw_137 rfl rfl ?_
      exact r_iret (pc := 51) C hQ dX8_letter_51 rfl (fin_okC (by unfold q_letter; (repeat (first | rw [if_pos (by omega)] | rw [if_neg (by omega)])); (try first | rfl | assumption | omega)) (by first | rfl | (rw [if_pos (by omega)]; rfl)) (by first | rfl | (rw [if_pos (by omega)])))
    · refine r_aload_n (pc := 30) C 0 dX8_letter_30 rfl rfl ?_
      refine r_iload_n (pc := 31) C 2 dX8_letter_31 rfl rfl ?_
      refine r_callV (pc := 32) (is := [0, 1, 2, 3, 4]) C YX8_refuse dX8_letter_32 tw_185 (c_X8_refuse l G _ _ _ _ _ _ _ (by first | assumption | omega | exact zand_rng _ _ | exact zor_rng _ _ | exact zxor_rng _ _ | exact BT.r (IT.b (by assumption)) _ _)) 0 0 rfl rfl (ci := 8) rfl rfl rfl (by decide) rfl rfl (Nat.le_of_ble_eq_true rfl) ⟨rfl, rfl, by decide, by decide⟩ (jst_i (C_uall ..) ?_)
      exact r_iret (pc := 35) C hQ dX8_letter_35 rfl (fin_noC (by unfold q_letter; (repeat (first | rw [if_pos (by omega)] | rw [if_neg (by omega)])); (try first | rfl | assumption | omega)) (by omega) rfl)
  · refine r_aload_n (pc := 13) C 0 dX8_letter_13 rfl rfl ?_
    refine r_get (pc := 14) C 0 0 3 dX8_letter_14 in_X8 rfl rfl (ci := 8) rfl (by decide) tw_146 rfl rfl ?_
    refine r_callV (pc := 17) (is := [4]) C YX5_isFull dX8_letter_17 tw_181 (c_X5_isFull l G _ _ (by first | assumption | omega | exact zand_rng _ _ | exact zor_rng _ _ | exact zxor_rng _ _ | exact BT.r (IT.b (by assumption)) _ _)) 4 0 rfl rfl (ci := 5) rfl rfl rfl (by decide) rfl rfl (Nat.le_of_ble_eq_true rfl) ⟨rfl, rfl, by decide, by decide⟩ (jst_i (C_u4 ..) ?_)
    refine r_ifb_eq (pc := 20) (tgt := 26) C dX8_letter_20 (by decide) (fun c20 => ?_) (fun c20 => ?_)
    · refine r_iload_n (pc := 26) C 2 dX8_letter_26 rfl rfl ?_
      refine r_if_eq (pc := 27) (tgt := 36) C dX8_letter_27 (by decide) (by first | omega | exact zand_rng _ _ | exact zor_rng _ _ | exact zxor_rng _ _ | exact BT.r (IT.b (by assumption)) _ _) (fun c27 => ?_) (fun c27 => ?_)
      · refine r_aload_n (pc := 36) C 0 dX8_letter_36 rfl rfl ?_
        refine r_get (pc := 37) C 0 0 3 dX8_letter_37 in_X8 rfl rfl (ci := 8) rfl (by decide) tw_146 rfl rfl ?_
        refine r_iload_n (pc := 40) C 1 dX8_letter_40 rfl rfl ?_
        refine r_callV (pc := 41) (is := [4]) C YX5_add dX8_letter_41 tw_189 (c_X5_add l G _ _ _ (by first | assumption | omega | exact zand_rng _ _ | exact zor_rng _ _ | exact zxor_rng _ _ | exact BT.r (IT.b (by assumption)) _ _) (by first | assumption | omega | exact zand_rng _ _ | exact zor_rng _ _ | exact zxor_rng _ _ | exact BT.r (IT.b (by assumption)) _ _)) 4 0 rfl rfl (ci := 5) rfl rfl rfl (by decide) rfl rfl (Nat.le_of_ble_eq_true rfl) ⟨rfl, rfl, by decide, by decide⟩ (jst_v (C_u4 ..) ?_)
        refine r_aload_n (pc := 44) C 0 dX8_letter_44 rfl rfl ?_
        refine r_get (pc := 45) C 0 0 3 dX8_letter_45 in_X8 rfl rfl (ci := 8) rfl (by decide) tw_146 rfl rfl ?_
        refine r_get (pc := 48) C 4 0 1 dX8_letter_48 in_X5 rfl rfl (ci := 5) rfl (by decide) tw_137 rfl rfl ?_
        exact r_iret (pc := 51) C hQ dX8_letter_51 rfl (fin_okC (by unfold q_letter; (repeat (first | rw [if_pos (by omega)] | rw [if_neg (by omega)])); (try first | rfl | assumption | omega)) (by first | rfl | (rw [if_pos (by omega)]; rfl)) (by first | rfl | (rw [if_pos (by omega)])))
      · refine r_aload_n (pc := 30) C 0 dX8_letter_30 rfl rfl ?_
        refine r_iload_n (pc := 31) C 2 dX8_letter_31 rfl rfl ?_
        refine r_callV (pc := 32) (is := [0, 1, 2, 3, 4]) C YX8_refuse dX8_letter_32 tw_185 (c_X8_refuse l G _ _ _ _ _ _ _ (by first | assumption | omega | exact zand_rng _ _ | exact zor_rng _ _ | exact zxor_rng _ _ | exact BT.r (IT.b (by assumption)) _ _)) 0 0 rfl rfl (ci := 8) rfl rfl rfl (by decide) rfl rfl (Nat.le_of_ble_eq_true rfl) ⟨rfl, rfl, by decide, by decide⟩ (jst_i (C_uall ..) ?_)
        exact r_iret (pc := 35) C hQ dX8_letter_35 rfl (fin_noC (by unfold q_letter; (repeat (first | rw [if_pos (by omega)] | rw [if_neg (by omega)])); (try first | rfl | assumption | omega)) (by omega) rfl)
    · refine r_bipush (pc := 23) C dX8_letter_23 (by decide) ?_
      refine r_istore_n (pc := 25) C 2 dX8_letter_25 rfl (Nat.le_of_ble_eq_true rfl) ?_
      refine r_iload_n (pc := 26) C 2 dX8_letter_26 rfl rfl ?_
      refine r_if_eq (pc := 27) (tgt := 36) C dX8_letter_27 (by decide) (by first | omega | exact zand_rng _ _ | exact zor_rng _ _ | exact zxor_rng _ _ | exact BT.r (IT.b (by assumption)) _ _) (fun c27 => absurd c27 (by omega)) (fun c27 => ?_)
      refine r_aload_n (pc := 30) C 0 dX8_letter_30 rfl rfl ?_
      refine r_iload_n (pc := 31) C 2 dX8_letter_31 rfl rfl ?_
      refine r_callV (pc := 32) (is := [0, 1, 2, 3, 4]) C YX8_refuse dX8_letter_32 tw_185 (c_X8_refuse l G _ _ _ _ _ _ _ (by first | assumption | omega | exact zand_rng _ _ | exact zor_rng _ _ | exact zxor_rng _ _ | exact BT.r (IT.b (by assumption)) _ _)) 0 0 rfl rfl (ci := 8) rfl rfl rfl (by decide) rfl rfl (Nat.le_of_ble_eq_true rfl) ⟨rfl, rfl, by decide, by decide⟩ (jst_i (C_uall ..) ?_)
      exact r_iret (pc := 35) C hQ dX8_letter_35 rfl (fin_noC (by unfold q_letter; (repeat (first | rw [if_pos (by omega)] | rw [if_neg (by omega)])); (try first | rfl | assumption | omega)) (by omega) rfl)

set_option maxRecDepth 100000 in
set_option maxHeartbeats 4000000 in
theorem c_X8_loft (l : Launch) (G : GT) (a : Nat → Nat) (X N M P S : Tn) (z w : Int) (hI : IT N) (hX : IX X S) (gz : -2147483648 ≤ z ∧ z < 2147483648) (gw : -2147483648 ≤ w ∧ w < 2147483648) : Cn l yX8_loft cX8_loft 3 (Option.some .int) ({ frames := 6, cells := 0, slots := 0, locals := 128 }) G [.ref (a 0), .int (iI z), .int (iI w)] (wC G a X N M P S) (jst (some (.int (iI (zans (q_loft N z w) (v_loft N z w))))) (wC G a (zif (q_loft N z w) (X) (xrf X (q_loft N z w))) (zif (q_loft N z w) (N) N) (zif (q_loft N z w) (M) M) (zif (q_loft N z w) (P) P) (zif (q_loft N z w) (S) S))) := by
  refine Cn_in RX8 [some (.ref (a 0)), some (.int (iI z)), some (.int (iI w))] (by decide +kernel) rfl rfl rfl (Nat.le_of_ble_eq_true rfl) (fun K C hQ => ?_)
  obtain ⟨x1, s1, x3, s6, x8⟩ := hX
  have hBB := hI.b
  have hLL := hI.L
  have hDD := hI.D
  have hkk := hI.k
  have hzb := zbit_r (N 0 2) z
  refine r_aload_n (pc := 0) C 0 dX8_loft_0 rfl rfl ?_
  refine r_get (pc := 1) C 0 0 0 dX8_loft_1 in_X8 rfl rfl (ci := 8) rfl (by decide) tw_143 rfl rfl ?_
  refine r_iload_n (pc := 4) C 1 dX8_loft_4 rfl rfl ?_
  refine r_callV (pc := 5) (is := [1]) C YX6_hasLoft dX8_loft_5 tw_399 (c_X6_hasLoft l G _ _ _ (by first | assumption | omega | exact zand_rng _ _ | exact zor_rng _ _ | exact zxor_rng _ _ | exact BT.r (IT.b (by assumption)) _ _) (by first | assumption | omega | exact zand_rng _ _ | exact zor_rng _ _ | exact zxor_rng _ _ | exact BT.r (IT.b (by assumption)) _ _)) 1 0 rfl rfl (ci := 6) rfl rfl rfl (by decide) rfl rfl (Nat.le_of_ble_eq_true rfl) ⟨rfl, rfl, by decide, by decide⟩ (jst_i (C_u1 ..) ?_)
  refine r_ifb_ne (pc := 8) (tgt := 17) C dX8_loft_8 (by decide) (fun c8 => ?_) (fun c8 => ?_)
  · refine r_iload_n (pc := 17) C 2 dX8_loft_17 rfl rfl ?_
    by_cases s18_0 : w = 0
    · refine r_tblIn (pc := 18) (tgt := 52) C 0 dX8_loft_18 s18_0 (by decide) (by decide) (by decide) rfl (by decide) ?_
      refine r_aload_n (pc := 52) C 0 dX8_loft_52 rfl rfl ?_
      refine r_get (pc := 53) C 0 0 0 dX8_loft_53 in_X8 rfl rfl (ci := 8) rfl (by decide) tw_143 rfl rfl ?_
      refine r_get (pc := 56) C 1 0 1 dX8_loft_56 in_X6 rfl rfl (ci := 6) rfl (by decide) tw_78 rfl rfl ?_
      refine r_iload_n (pc := 59) C 1 dX8_loft_59 rfl rfl ?_
      refine r_iaload (pc := 60) C 1 2 dX8_loft_60 rfl rfl (by decide) (by omega) ?_
      exact r_iret (pc := 61) C hQ dX8_loft_61 rfl (fin_okC (by unfold q_loft; (repeat (first | rw [if_pos (by omega)] | rw [if_neg (by omega)])); (try first | rfl | assumption | omega)) (by unfold v_loft; (repeat (first | rw [if_pos (by omega)] | rw [if_neg (by omega)])); (try omega)) (by rfl))
    by_cases s18_1 : w = 1
    · refine r_tblIn (pc := 18) (tgt := 62) C 1 dX8_loft_18 s18_1 (by decide) (by decide) (by decide) rfl (by decide) ?_
      refine r_aload_n (pc := 62) C 0 dX8_loft_62 rfl rfl ?_
      refine r_get (pc := 63) C 0 0 0 dX8_loft_63 in_X8 rfl rfl (ci := 8) rfl (by decide) tw_143 rfl rfl ?_
      refine r_get (pc := 66) C 1 0 2 dX8_loft_66 in_X6 rfl rfl (ci := 6) rfl (by decide) tw_80 rfl rfl ?_
      refine r_iload_n (pc := 69) C 1 dX8_loft_69 rfl rfl ?_
      refine r_iaload (pc := 70) C 1 3 dX8_loft_70 rfl rfl (by decide) (by omega) ?_
      exact r_iret (pc := 71) C hQ dX8_loft_71 rfl (fin_okC (by unfold q_loft; (repeat (first | rw [if_pos (by omega)] | rw [if_neg (by omega)])); (try first | rfl | assumption | omega)) (by unfold v_loft; (repeat (first | rw [if_pos (by omega)] | rw [if_neg (by omega)])); (try omega)) (by rfl))
    by_cases s18_2 : w = 2
    · refine r_tblIn (pc := 18) (tgt := 72) C 2 dX8_loft_18 s18_2 (by decide) (by decide) (by decide) rfl (by decide) ?_
      refine r_aload_n (pc := 72) C 0 dX8_loft_72 rfl rfl ?_
      refine r_get (pc := 73) C 0 0 0 dX8_loft_73 in_X8 rfl rfl (ci := 8) rfl (by decide) tw_143 rfl rfl ?_
      refine r_iload_n (pc := 76) C 1 dX8_loft_76 rfl rfl ?_
      refine r_callV (pc := 77) (is := [1]) C YX6_isOpen dX8_loft_77 tw_400 (c_X6_isOpen l G _ _ _ (by first | assumption | omega | exact zand_rng _ _ | exact zor_rng _ _ | exact zxor_rng _ _ | exact BT.r (IT.b (by assumption)) _ _) (by first | assumption | omega | exact zand_rng _ _ | exact zor_rng _ _ | exact zxor_rng _ _ | exact BT.r (IT.b (by assumption)) _ _)) 1 0 rfl rfl (ci := 6) rfl rfl rfl (by decide) rfl rfl (Nat.le_of_ble_eq_true rfl) ⟨rfl, rfl, by decide, by decide⟩ (jst_i (C_u1 ..) ?_)
      refine r_ifb_eq (pc := 80) (tgt := 87) C dX8_loft_80 (by decide) (fun c80 => ?_) (fun c80 => ?_)
      · refine r_iconst (pc := 87) C dX8_loft_87 ?_
        exact r_iret (pc := 88) C hQ dX8_loft_88 rfl (fin_okC (by unfold q_loft; (repeat (first | rw [if_pos (by omega)] | rw [if_neg (by omega)])); (try first | rfl | assumption | omega)) (by unfold v_loft; (repeat (first | rw [if_pos (by omega)] | rw [if_neg (by omega)])); (try omega)) (by rfl))
      · refine r_iconst (pc := 83) C dX8_loft_83 ?_
        refine r_goto (pc := 84) (tgt := 88) C dX8_loft_84 (by decide) ?_
        exact r_iret (pc := 88) C hQ dX8_loft_88 rfl (fin_okC (by unfold q_loft; (repeat (first | rw [if_pos (by omega)] | rw [if_neg (by omega)])); (try first | rfl | assumption | omega)) (by unfold v_loft; (repeat (first | rw [if_pos (by omega)] | rw [if_neg (by omega)])); (try omega)) (by rfl))
    by_cases s18_3 : w = 3
    · refine r_tblIn (pc := 18) (tgt := 89) C 3 dX8_loft_18 s18_3 (by decide) (by decide) (by decide) rfl (by decide) ?_
      refine r_aload_n (pc := 89) C 0 dX8_loft_89 rfl rfl ?_
      refine r_get (pc := 90) C 0 0 0 dX8_loft_90 in_X8 rfl rfl (ci := 8) rfl (by decide) tw_143 rfl rfl ?_
      refine r_iload_n (pc := 93) C 1 dX8_loft_93 rfl rfl ?_
      refine r_callV (pc := 94) (is := [1]) C YX6_purseOf dX8_loft_94 tw_407 (c_X6_purseOf l G _ _ _ (by first | assumption | omega | exact zand_rng _ _ | exact zor_rng _ _ | exact zxor_rng _ _ | exact BT.r (IT.b (by assumption)) _ _) (by first | assumption | omega | exact zand_rng _ _ | exact zor_rng _ _ | exact zxor_rng _ _ | exact BT.r (IT.b (by assumption)) _ _)) 1 0 rfl rfl (ci := 6) rfl rfl rfl (by decide) rfl rfl (Nat.le_of_ble_eq_true rfl) ⟨rfl, rfl, by decide, by decide⟩ (jst_i (C_u1 ..) ?_)
      exact r_iret (pc := 97) C hQ dX8_loft_97 rfl (fin_okC (by unfold q_loft; (repeat (first | rw [if_pos (by omega)] | rw [if_neg (by omega)])); (try first | rfl | assumption | omega)) (by unfold v_loft; (repeat (first | rw [if_pos (by omega)] | rw [if_neg (by omega)])); (try omega)) (by rfl))
    by_cases s18_4 : w = 4
    · refine r_tblIn (pc := 18) (tgt := 98) C 4 dX8_loft_18 s18_4 (by decide) (by decide) (by decide) rfl (by decide) ?_
      refine r_aload_n (pc := 98) C 0 dX8_loft_98 rfl rfl ?_
      refine r_get (pc := 99) C 0 0 0 dX8_loft_99 in_X8 rfl rfl (ci := 8) rfl (by decide) tw_143 rfl rfl ?_
      refine r_iload_n (pc := 102) C 1 dX8_loft_102 rfl rfl ?_
      refine r_callV (pc := 103) (is := [1]) C YX6_ownOf dX8_loft_103 tw_456 (c_X6_ownOf l G _ _ _ (by first | assumption | omega | exact zand_rng _ _ | exact zor_rng _ _ | exact zxor_rng _ _ | exact BT.r (IT.b (by assumption)) _ _) (by first | assumption | omega | exact zand_rng _ _ | exact zor_rng _ _ | exact zxor_rng _ _ | exact BT.r (IT.b (by assumption)) _ _)) 1 0 rfl rfl (ci := 6) rfl rfl rfl (by decide) rfl rfl (Nat.le_of_ble_eq_true rfl) ⟨rfl, rfl, by decide, by decide⟩ (jst_i (C_u1 ..) ?_)
      exact r_iret (pc := 106) C hQ dX8_loft_106 rfl (fin_okC (by unfold q_loft; (repeat (first | rw [if_pos (by omega)] | rw [if_neg (by omega)])); (try first | rfl | assumption | omega)) (by unfold v_loft; (repeat (first | rw [if_pos (by omega)] | rw [if_neg (by omega)])); (try omega)) (by rfl))
    refine r_tblOut (pc := 18) (tgt := 107) C dX8_loft_18 gw (by omega) (by decide) ?_
    refine r_aload_n (pc := 107) C 0 dX8_loft_107 rfl rfl ?_
    refine r_bipush (pc := 108) C dX8_loft_108 (by decide) ?_
    refine r_callV (pc := 110) (is := [0, 1, 2, 3, 4]) C YX8_refuse dX8_loft_110 tw_185 (c_X8_refuse l G _ _ _ _ _ _ _ (by first | assumption | omega | exact zand_rng _ _ | exact zor_rng _ _ | exact zxor_rng _ _ | exact BT.r (IT.b (by assumption)) _ _)) 0 0 rfl rfl (ci := 8) rfl rfl rfl (by decide) rfl rfl (Nat.le_of_ble_eq_true rfl) ⟨rfl, rfl, by decide, by decide⟩ (jst_i (C_uall ..) ?_)
    exact r_iret (pc := 113) C hQ dX8_loft_113 rfl (fin_noC (by unfold q_loft; (repeat (first | rw [if_pos (by omega)] | rw [if_neg (by omega)])); (try first | rfl | assumption | omega)) (by omega) rfl)
  · refine r_aload_n (pc := 11) C 0 dX8_loft_11 rfl rfl ?_
    refine r_iconst (pc := 12) C dX8_loft_12 ?_
    refine r_callV (pc := 13) (is := [0, 1, 2, 3, 4]) C YX8_refuse dX8_loft_13 tw_185 (c_X8_refuse l G _ _ _ _ _ _ _ (by first | assumption | omega | exact zand_rng _ _ | exact zor_rng _ _ | exact zxor_rng _ _ | exact BT.r (IT.b (by assumption)) _ _)) 0 0 rfl rfl (ci := 8) rfl rfl rfl (by decide) rfl rfl (Nat.le_of_ble_eq_true rfl) ⟨rfl, rfl, by decide, by decide⟩ (jst_i (C_uall ..) ?_)
    exact r_iret (pc := 16) C hQ dX8_loft_16 rfl (fin_noC (by unfold q_loft; (repeat (first | rw [if_pos (by omega)] | rw [if_neg (by omega)])); (try first | rfl | assumption | omega)) (by omega) rfl)

set_option maxRecDepth 100000 in
set_option maxHeartbeats 4000000 in
theorem c_X8_dove (l : Launch) (G : GT) (a : Nat → Nat) (X N M P S : Tn) (d w : Int) (hI : IT N) (hX : IX X S) (gd : -2147483648 ≤ d ∧ d < 2147483648) (gw : -2147483648 ≤ w ∧ w < 2147483648) : Cn l yX8_dove cX8_dove 3 (Option.some .int) ({ frames := 4, cells := 0, slots := 0, locals := 94 }) G [.ref (a 0), .int (iI d), .int (iI w)] (wC G a X N M P S) (jst (some (.int (iI (zans (q_dove N d w) (v_dove N d w))))) (wC G a (zif (q_dove N d w) (X) (xrf X (q_dove N d w))) (zif (q_dove N d w) (N) N) (zif (q_dove N d w) (M) M) (zif (q_dove N d w) (P) P) (zif (q_dove N d w) (S) S))) := by
  refine Cn_in RX8 [some (.ref (a 0)), some (.int (iI d)), some (.int (iI w))] (by decide +kernel) rfl rfl rfl (Nat.le_of_ble_eq_true rfl) (fun K C hQ => ?_)
  obtain ⟨x1, s1, x3, s6, x8⟩ := hX
  have hBB := hI.b
  have hLL := hI.L
  have hDD := hI.D
  have hkk := hI.k
  refine r_aload_n (pc := 0) C 0 dX8_dove_0 rfl rfl ?_
  refine r_get (pc := 1) C 0 0 0 dX8_dove_1 in_X8 rfl rfl (ci := 8) rfl (by decide) tw_143 rfl rfl ?_
  refine r_iload_n (pc := 4) C 1 dX8_dove_4 rfl rfl ?_
  refine r_callV (pc := 5) (is := [1]) C YX6_hasDove dX8_dove_5 tw_476 (c_X6_hasDove l G _ _ _ (by first | assumption | omega | exact zand_rng _ _ | exact zor_rng _ _ | exact zxor_rng _ _ | exact BT.r (IT.b (by assumption)) _ _) (by first | assumption | omega | exact zand_rng _ _ | exact zor_rng _ _ | exact zxor_rng _ _ | exact BT.r (IT.b (by assumption)) _ _)) 1 0 rfl rfl (ci := 6) rfl rfl rfl (by decide) rfl rfl (Nat.le_of_ble_eq_true rfl) ⟨rfl, rfl, by decide, by decide⟩ (jst_i (C_u1 ..) ?_)
  refine r_ifb_ne (pc := 8) (tgt := 17) C dX8_dove_8 (by decide) (fun c8 => ?_) (fun c8 => ?_)
  · refine r_iload_n (pc := 17) C 2 dX8_dove_17 rfl rfl ?_
    by_cases s18_0 : w = 0
    · refine r_tblIn (pc := 18) (tgt := 60) C 0 dX8_dove_18 s18_0 (by decide) (by decide) (by decide) rfl (by decide) ?_
      refine r_aload_n (pc := 60) C 0 dX8_dove_60 rfl rfl ?_
      refine r_get (pc := 61) C 0 0 0 dX8_dove_61 in_X8 rfl rfl (ci := 8) rfl (by decide) tw_143 rfl rfl ?_
      refine r_get (pc := 64) C 1 0 3 dX8_dove_64 in_X6 rfl rfl (ci := 6) rfl (by decide) tw_82 rfl rfl ?_
      refine r_iload_n (pc := 67) C 1 dX8_dove_67 rfl rfl ?_
      refine r_iaload (pc := 68) C 1 4 dX8_dove_68 rfl rfl (by decide) (by omega) ?_
      exact r_iret (pc := 69) C hQ dX8_dove_69 rfl (fin_okC (by unfold q_dove; (repeat (first | rw [if_pos (by omega)] | rw [if_neg (by omega)])); (try first | rfl | assumption | omega)) (by rw [s18_0]; rfl) (by rfl))
    by_cases s18_1 : w = 1
    · refine r_tblIn (pc := 18) (tgt := 70) C 1 dX8_dove_18 s18_1 (by decide) (by decide) (by decide) rfl (by decide) ?_
      refine r_aload_n (pc := 70) C 0 dX8_dove_70 rfl rfl ?_
      refine r_get (pc := 71) C 0 0 0 dX8_dove_71 in_X8 rfl rfl (ci := 8) rfl (by decide) tw_143 rfl rfl ?_
      refine r_get (pc := 74) C 1 0 4 dX8_dove_74 in_X6 rfl rfl (ci := 6) rfl (by decide) tw_84 rfl rfl ?_
      refine r_iload_n (pc := 77) C 1 dX8_dove_77 rfl rfl ?_
      refine r_iaload (pc := 78) C 1 5 dX8_dove_78 rfl rfl (by decide) (by omega) ?_
      exact r_iret (pc := 79) C hQ dX8_dove_79 rfl (fin_okC (by unfold q_dove; (repeat (first | rw [if_pos (by omega)] | rw [if_neg (by omega)])); (try first | rfl | assumption | omega)) (by rw [s18_1]; rfl) (by rfl))
    by_cases s18_2 : w = 2
    · refine r_tblIn (pc := 18) (tgt := 80) C 2 dX8_dove_18 s18_2 (by decide) (by decide) (by decide) rfl (by decide) ?_
      refine r_aload_n (pc := 80) C 0 dX8_dove_80 rfl rfl ?_
      refine r_get (pc := 81) C 0 0 0 dX8_dove_81 in_X8 rfl rfl (ci := 8) rfl (by decide) tw_143 rfl rfl ?_
      refine r_get (pc := 84) C 1 0 5 dX8_dove_84 in_X6 rfl rfl (ci := 6) rfl (by decide) tw_86 rfl rfl ?_
      refine r_iload_n (pc := 87) C 1 dX8_dove_87 rfl rfl ?_
      refine r_iaload (pc := 88) C 1 6 dX8_dove_88 rfl rfl (by decide) (by omega) ?_
      exact r_iret (pc := 89) C hQ dX8_dove_89 rfl (fin_okC (by unfold q_dove; (repeat (first | rw [if_pos (by omega)] | rw [if_neg (by omega)])); (try first | rfl | assumption | omega)) (by rw [s18_2]; rfl) (by rfl))
    by_cases s18_3 : w = 3
    · refine r_tblIn (pc := 18) (tgt := 90) C 3 dX8_dove_18 s18_3 (by decide) (by decide) (by decide) rfl (by decide) ?_
      refine r_aload_n (pc := 90) C 0 dX8_dove_90 rfl rfl ?_
      refine r_get (pc := 91) C 0 0 0 dX8_dove_91 in_X8 rfl rfl (ci := 8) rfl (by decide) tw_143 rfl rfl ?_
      refine r_get (pc := 94) C 1 0 6 dX8_dove_94 in_X6 rfl rfl (ci := 6) rfl (by decide) tw_88 rfl rfl ?_
      refine r_iload_n (pc := 97) C 1 dX8_dove_97 rfl rfl ?_
      refine r_iaload (pc := 98) C 1 7 dX8_dove_98 rfl rfl (by decide) (by omega) ?_
      exact r_iret (pc := 99) C hQ dX8_dove_99 rfl (fin_okC (by unfold q_dove; (repeat (first | rw [if_pos (by omega)] | rw [if_neg (by omega)])); (try first | rfl | assumption | omega)) (by rw [s18_3]; rfl) (by rfl))
    by_cases s18_4 : w = 4
    · refine r_tblIn (pc := 18) (tgt := 100) C 4 dX8_dove_18 s18_4 (by decide) (by decide) (by decide) rfl (by decide) ?_
      refine r_aload_n (pc := 100) C 0 dX8_dove_100 rfl rfl ?_
      refine r_get (pc := 101) C 0 0 0 dX8_dove_101 in_X8 rfl rfl (ci := 8) rfl (by decide) tw_143 rfl rfl ?_
      refine r_get (pc := 104) C 1 0 7 dX8_dove_104 in_X6 rfl rfl (ci := 6) rfl (by decide) tw_90 rfl rfl ?_
      refine r_iload_n (pc := 107) C 1 dX8_dove_107 rfl rfl ?_
      refine r_iaload (pc := 108) C 1 8 dX8_dove_108 rfl rfl (by decide) (by omega) ?_
      exact r_iret (pc := 109) C hQ dX8_dove_109 rfl (fin_okC (by unfold q_dove; (repeat (first | rw [if_pos (by omega)] | rw [if_neg (by omega)])); (try first | rfl | assumption | omega)) (by rw [s18_4]; rfl) (by rfl))
    by_cases s18_5 : w = 5
    · refine r_tblIn (pc := 18) (tgt := 110) C 5 dX8_dove_18 s18_5 (by decide) (by decide) (by decide) rfl (by decide) ?_
      refine r_aload_n (pc := 110) C 0 dX8_dove_110 rfl rfl ?_
      refine r_get (pc := 111) C 0 0 0 dX8_dove_111 in_X8 rfl rfl (ci := 8) rfl (by decide) tw_143 rfl rfl ?_
      refine r_iload_n (pc := 114) C 1 dX8_dove_114 rfl rfl ?_
      refine r_callV (pc := 115) (is := [1]) C YX6_worthOf dX8_dove_115 tw_477 (c_X6_worthOf l G _ _ _ (by first | assumption | omega | exact zand_rng _ _ | exact zor_rng _ _ | exact zxor_rng _ _ | exact BT.r (IT.b (by assumption)) _ _) (by first | assumption | omega | exact zand_rng _ _ | exact zor_rng _ _ | exact zxor_rng _ _ | exact BT.r (IT.b (by assumption)) _ _)) 1 0 rfl rfl (ci := 6) rfl rfl rfl (by decide) rfl rfl (Nat.le_of_ble_eq_true rfl) ⟨rfl, rfl, by decide, by decide⟩ (jst_i (C_u1 ..) ?_)
      exact r_iret (pc := 118) C hQ dX8_dove_118 rfl (fin_okC (by unfold q_dove; (repeat (first | rw [if_pos (by omega)] | rw [if_neg (by omega)])); (try first | rfl | assumption | omega)) (by rw [s18_5]; rfl) (by rfl))
    by_cases s18_6 : w = 6
    · refine r_tblIn (pc := 18) (tgt := 119) C 6 dX8_dove_18 s18_6 (by decide) (by decide) (by decide) rfl (by decide) ?_
      refine r_aload_n (pc := 119) C 0 dX8_dove_119 rfl rfl ?_
      refine r_get (pc := 120) C 0 0 0 dX8_dove_120 in_X8 rfl rfl (ci := 8) rfl (by decide) tw_143 rfl rfl ?_
      refine r_iload_n (pc := 123) C 1 dX8_dove_123 rfl rfl ?_
      refine r_callV (pc := 124) (is := [1]) C YX6_aimOf dX8_dove_124 tw_478 (c_X6_aimOf l G _ _ _ (by first | assumption | omega | exact zand_rng _ _ | exact zor_rng _ _ | exact zxor_rng _ _ | exact BT.r (IT.b (by assumption)) _ _) (by first | assumption | omega | exact zand_rng _ _ | exact zor_rng _ _ | exact zxor_rng _ _ | exact BT.r (IT.b (by assumption)) _ _)) 1 0 rfl rfl (ci := 6) rfl rfl rfl (by decide) rfl rfl (Nat.le_of_ble_eq_true rfl) ⟨rfl, rfl, by decide, by decide⟩ (jst_i (C_u1 ..) ?_)
      exact r_iret (pc := 127) C hQ dX8_dove_127 rfl (fin_okC (by unfold q_dove; (repeat (first | rw [if_pos (by omega)] | rw [if_neg (by omega)])); (try first | rfl | assumption | omega)) (by rw [s18_6]; rfl) (by rfl))
    refine r_tblOut (pc := 18) (tgt := 128) C dX8_dove_18 gw (by omega) (by decide) ?_
    refine r_aload_n (pc := 128) C 0 dX8_dove_128 rfl rfl ?_
    refine r_bipush (pc := 129) C dX8_dove_129 (by decide) ?_
    refine r_callV (pc := 131) (is := [0, 1, 2, 3, 4]) C YX8_refuse dX8_dove_131 tw_185 (c_X8_refuse l G _ _ _ _ _ _ _ (by first | assumption | omega | exact zand_rng _ _ | exact zor_rng _ _ | exact zxor_rng _ _ | exact BT.r (IT.b (by assumption)) _ _)) 0 0 rfl rfl (ci := 8) rfl rfl rfl (by decide) rfl rfl (Nat.le_of_ble_eq_true rfl) ⟨rfl, rfl, by decide, by decide⟩ (jst_i (C_uall ..) ?_)
    exact r_iret (pc := 134) C hQ dX8_dove_134 rfl (fin_noC (by unfold q_dove; (repeat (first | rw [if_pos (by omega)] | rw [if_neg (by omega)])); (try first | rfl | assumption | omega)) (by omega) rfl)
  · refine r_aload_n (pc := 11) C 0 dX8_dove_11 rfl rfl ?_
    refine r_iconst (pc := 12) C dX8_dove_12 ?_
    refine r_callV (pc := 13) (is := [0, 1, 2, 3, 4]) C YX8_refuse dX8_dove_13 tw_185 (c_X8_refuse l G _ _ _ _ _ _ _ (by first | assumption | omega | exact zand_rng _ _ | exact zor_rng _ _ | exact zxor_rng _ _ | exact BT.r (IT.b (by assumption)) _ _)) 0 0 rfl rfl (ci := 8) rfl rfl rfl (by decide) rfl rfl (Nat.le_of_ble_eq_true rfl) ⟨rfl, rfl, by decide, by decide⟩ (jst_i (C_uall ..) ?_)
    exact r_iret (pc := 16) C hQ dX8_dove_16 rfl (fin_noC (by unfold q_dove; (repeat (first | rw [if_pos (by omega)] | rw [if_neg (by omega)])); (try first | rfl | assumption | omega)) (by omega) rfl)

set_option maxRecDepth 100000 in
set_option maxHeartbeats 4000000 in
theorem c_X8_open (l : Launch) (G : GT) (a : Nat → Nat) (X N M P S : Tn) (z i : Int) (hI : IT N) (hX : IX X S) (gz : -2147483648 ≤ z ∧ z < 2147483648) (gi : -2147483648 ≤ i ∧ i < 2147483648) : Cn l yX8_open cX8_open 4 (Option.some .int) ({ frames := 2, cells := 0, slots := 0, locals := 42 }) G [.ref (a 0), .int (iI z), .int (iI i)] (wC G a X N M P S) (jst (some (.int (iI (zans (q_open N z i) (zbit (N 0 2) z))))) (wC G a (zif (q_open N z i) (X) (xrf X (q_open N z i))) (zif (q_open N z i) (up N 0 2 (sSet (N 0 2) z i)) N) (zif (q_open N z i) (M) M) (zif (q_open N z i) (P) P) (zif (q_open N z i) (S) S))) := by
  refine Cn_in RX8 [some (.ref (a 0)), some (.int (iI z)), some (.int (iI i)), none] (by decide +kernel) rfl rfl rfl (Nat.le_of_ble_eq_true rfl) (fun K C hQ => ?_)
  obtain ⟨x1, s1, x3, s6, x8⟩ := hX
  have hBB := hI.b
  have hLL := hI.L
  have hDD := hI.D
  have hkk := hI.k
  have hoo := hI.o
  have hz6 := zp2_le6 hLL
  have hzb := zbit_r (N 0 2) z
  refine r_aload_n (pc := 0) C 0 dX8_open_0 rfl rfl ?_
  refine r_get (pc := 1) C 0 0 0 dX8_open_1 in_X8 rfl rfl (ci := 8) rfl (by decide) tw_143 rfl rfl ?_
  refine r_iload_n (pc := 4) C 1 dX8_open_4 rfl rfl ?_
  refine r_callV (pc := 5) (is := [1]) C YX6_hasLoft dX8_open_5 tw_399 (c_X6_hasLoft l G _ _ _ (by first | assumption | omega | exact zand_rng _ _ | exact zor_rng _ _ | exact zxor_rng _ _ | exact BT.r (IT.b (by assumption)) _ _) (by first | assumption | omega | exact zand_rng _ _ | exact zor_rng _ _ | exact zxor_rng _ _ | exact BT.r (IT.b (by assumption)) _ _)) 1 0 rfl rfl (ci := 6) rfl rfl rfl (by decide) rfl rfl (Nat.le_of_ble_eq_true rfl) ⟨rfl, rfl, by decide, by decide⟩ (jst_i (C_u1 ..) ?_)
  refine r_ifb_ne (pc := 8) (tgt := 17) C dX8_open_8 (by decide) (fun c8 => ?_) (fun c8 => ?_)
  · refine r_iload_n (pc := 17) C 2 dX8_open_17 rfl rfl ?_
    refine r_if_eq (pc := 18) (tgt := 33) C dX8_open_18 (by decide) (by first | omega | exact zand_rng _ _ | exact zor_rng _ _ | exact zxor_rng _ _ | exact BT.r (IT.b (by assumption)) _ _) (fun c18 => ?_) (fun c18 => ?_)
    · refine r_aload_n (pc := 33) C 0 dX8_open_33 rfl rfl ?_
      refine r_get (pc := 34) C 0 0 0 dX8_open_34 in_X8 rfl rfl (ci := 8) rfl (by decide) tw_143 rfl rfl ?_
      refine r_iload_n (pc := 37) C 1 dX8_open_37 rfl rfl ?_
      refine r_callV (pc := 38) (is := [1]) C YX6_isOpen dX8_open_38 tw_400 (c_X6_isOpen l G _ _ _ (by first | assumption | omega | exact zand_rng _ _ | exact zor_rng _ _ | exact zxor_rng _ _ | exact BT.r (IT.b (by assumption)) _ _) (by first | assumption | omega | exact zand_rng _ _ | exact zor_rng _ _ | exact zxor_rng _ _ | exact BT.r (IT.b (by assumption)) _ _)) 1 0 rfl rfl (ci := 6) rfl rfl rfl (by decide) rfl rfl (Nat.le_of_ble_eq_true rfl) ⟨rfl, rfl, by decide, by decide⟩ (jst_i (C_u1 ..) ?_)
      refine r_ifb_eq (pc := 41) (tgt := 48) C dX8_open_41 (by decide) (fun c41 => ?_) (fun c41 => ?_)
      · refine r_iconst (pc := 48) C dX8_open_48 ?_
        refine r_istore_n (pc := 49) C 3 dX8_open_49 rfl (Nat.le_of_ble_eq_true rfl) ?_
        refine r_iload_n (pc := 50) C 3 dX8_open_50 rfl rfl ?_
        refine r_iload_n (pc := 51) C 2 dX8_open_51 rfl rfl ?_
        refine r_icmp_eq (pc := 52) (tgt := 64) C dX8_open_52 (by decide) (by first | omega | exact zand_rng _ _ | exact zor_rng _ _ | exact zxor_rng _ _ | exact BT.r (IT.b (by assumption)) _ _) (by first | omega | exact zand_rng _ _ | exact zor_rng _ _ | exact zxor_rng _ _ | exact BT.r (IT.b (by assumption)) _ _) (fun c52 => ?_) (fun c52 => ?_)
        · refine r_iload_n (pc := 64) C 3 dX8_open_64 rfl rfl ?_
          exact r_iret (pc := 65) C hQ dX8_open_65 rfl (fin_okC (by unfold q_open; (repeat (first | rw [if_pos (by omega)] | rw [if_neg (by omega)])); (try first | rfl | assumption | omega)) (by omega) (by first | (exfalso; omega) | (unfold sSet; first | (rw [if_pos (by omega), up_same (T := N) (a := 0) (z := 2) rfl]; done) | (rw [if_neg (show ¬ zbit (N 0 2) z = i by omega), if_pos (show i = 1 by omega), zx_s (by omega) (by omega), if_neg (show ¬ zbit (N 0 2) z = 1 by omega)]; done) | (rw [if_neg (show ¬ zbit (N 0 2) z = i by omega), if_neg (show ¬ i = 1 by omega), zx_s (by omega) (by omega), if_pos (show zbit (N 0 2) z = 1 by omega)]; done))))
        · refine r_aload_n (pc := 55) C 0 dX8_open_55 rfl rfl ?_
          refine r_get (pc := 56) C 0 0 0 dX8_open_56 in_X8 rfl rfl (ci := 8) rfl (by decide) tw_143 rfl rfl ?_
          refine r_iload_n (pc := 59) C 1 dX8_open_59 rfl rfl ?_
          refine r_callV (pc := 60) (is := [1]) C YX6_turnWindows dX8_open_60 tw_516 (c_X6_turnWindows l G _ _ _ (by first | assumption | omega | exact zand_rng _ _ | exact zor_rng _ _ | exact zxor_rng _ _ | exact BT.r (IT.b (by assumption)) _ _) (by first | assumption | omega | exact zand_rng _ _ | exact zor_rng _ _ | exact zxor_rng _ _ | exact BT.r (IT.b (by assumption)) _ _)) 1 0 rfl rfl (ci := 6) rfl rfl rfl (by decide) rfl rfl (Nat.le_of_ble_eq_true rfl) ⟨rfl, rfl, by decide, by decide⟩ (jst_i (C_u1 ..) ?_)
          rw [if_pos c8]
          refine r_pop (pc := 63) C dX8_open_63 rfl ?_
          refine r_iload_n (pc := 64) C 3 dX8_open_64 rfl rfl ?_
          exact r_iret (pc := 65) C hQ dX8_open_65 rfl (fin_okC (by unfold q_open; (repeat (first | rw [if_pos (by omega)] | rw [if_neg (by omega)])); (try first | rfl | assumption | omega)) (by omega) (by first | (exfalso; omega) | (unfold sSet; first | (rw [if_pos (by omega), up_same (T := N) (a := 0) (z := 2) rfl]; done) | (rw [if_neg (show ¬ zbit (N 0 2) z = i by omega), if_pos (show i = 1 by omega), zx_s (by omega) (by omega), if_neg (show ¬ zbit (N 0 2) z = 1 by omega)]; done) | (rw [if_neg (show ¬ zbit (N 0 2) z = i by omega), if_neg (show ¬ i = 1 by omega), zx_s (by omega) (by omega), if_pos (show zbit (N 0 2) z = 1 by omega)]; done))))
      · refine r_iconst (pc := 44) C dX8_open_44 ?_
        refine r_goto (pc := 45) (tgt := 49) C dX8_open_45 (by decide) ?_
        refine r_istore_n (pc := 49) C 3 dX8_open_49 rfl (Nat.le_of_ble_eq_true rfl) ?_
        refine r_iload_n (pc := 50) C 3 dX8_open_50 rfl rfl ?_
        refine r_iload_n (pc := 51) C 2 dX8_open_51 rfl rfl ?_
        refine r_icmp_eq (pc := 52) (tgt := 64) C dX8_open_52 (by decide) (by first | omega | exact zand_rng _ _ | exact zor_rng _ _ | exact zxor_rng _ _ | exact BT.r (IT.b (by assumption)) _ _) (by first | omega | exact zand_rng _ _ | exact zor_rng _ _ | exact zxor_rng _ _ | exact BT.r (IT.b (by assumption)) _ _) (fun c52 => ?_) (fun c52 => ?_)
        · refine r_iload_n (pc := 64) C 3 dX8_open_64 rfl rfl ?_
          exact r_iret (pc := 65) C hQ dX8_open_65 rfl (fin_okC (by unfold q_open; (repeat (first | rw [if_pos (by omega)] | rw [if_neg (by omega)])); (try first | rfl | assumption | omega)) (by omega) (by first | (exfalso; omega) | (unfold sSet; first | (rw [if_pos (by omega), up_same (T := N) (a := 0) (z := 2) rfl]; done) | (rw [if_neg (show ¬ zbit (N 0 2) z = i by omega), if_pos (show i = 1 by omega), zx_s (by omega) (by omega), if_neg (show ¬ zbit (N 0 2) z = 1 by omega)]; done) | (rw [if_neg (show ¬ zbit (N 0 2) z = i by omega), if_neg (show ¬ i = 1 by omega), zx_s (by omega) (by omega), if_pos (show zbit (N 0 2) z = 1 by omega)]; done))))
        · refine r_aload_n (pc := 55) C 0 dX8_open_55 rfl rfl ?_
          refine r_get (pc := 56) C 0 0 0 dX8_open_56 in_X8 rfl rfl (ci := 8) rfl (by decide) tw_143 rfl rfl ?_
          refine r_iload_n (pc := 59) C 1 dX8_open_59 rfl rfl ?_
          refine r_callV (pc := 60) (is := [1]) C YX6_turnWindows dX8_open_60 tw_516 (c_X6_turnWindows l G _ _ _ (by first | assumption | omega | exact zand_rng _ _ | exact zor_rng _ _ | exact zxor_rng _ _ | exact BT.r (IT.b (by assumption)) _ _) (by first | assumption | omega | exact zand_rng _ _ | exact zor_rng _ _ | exact zxor_rng _ _ | exact BT.r (IT.b (by assumption)) _ _)) 1 0 rfl rfl (ci := 6) rfl rfl rfl (by decide) rfl rfl (Nat.le_of_ble_eq_true rfl) ⟨rfl, rfl, by decide, by decide⟩ (jst_i (C_u1 ..) ?_)
          rw [if_pos c8]
          refine r_pop (pc := 63) C dX8_open_63 rfl ?_
          refine r_iload_n (pc := 64) C 3 dX8_open_64 rfl rfl ?_
          exact r_iret (pc := 65) C hQ dX8_open_65 rfl (fin_okC (by unfold q_open; (repeat (first | rw [if_pos (by omega)] | rw [if_neg (by omega)])); (try first | rfl | assumption | omega)) (by omega) (by first | (exfalso; omega) | (unfold sSet; first | (rw [if_pos (by omega), up_same (T := N) (a := 0) (z := 2) rfl]; done) | (rw [if_neg (show ¬ zbit (N 0 2) z = i by omega), if_pos (show i = 1 by omega), zx_s (by omega) (by omega), if_neg (show ¬ zbit (N 0 2) z = 1 by omega)]; done) | (rw [if_neg (show ¬ zbit (N 0 2) z = i by omega), if_neg (show ¬ i = 1 by omega), zx_s (by omega) (by omega), if_pos (show zbit (N 0 2) z = 1 by omega)]; done))))
    · refine r_iload_n (pc := 21) C 2 dX8_open_21 rfl rfl ?_
      refine r_iconst (pc := 22) C dX8_open_22 ?_
      refine r_icmp_eq (pc := 23) (tgt := 33) C dX8_open_23 (by decide) (by first | omega | exact zand_rng _ _ | exact zor_rng _ _ | exact zxor_rng _ _ | exact BT.r (IT.b (by assumption)) _ _) (by first | omega | exact zand_rng _ _ | exact zor_rng _ _ | exact zxor_rng _ _ | exact BT.r (IT.b (by assumption)) _ _) (fun c23 => ?_) (fun c23 => ?_)
      · refine r_aload_n (pc := 33) C 0 dX8_open_33 rfl rfl ?_
        refine r_get (pc := 34) C 0 0 0 dX8_open_34 in_X8 rfl rfl (ci := 8) rfl (by decide) tw_143 rfl rfl ?_
        refine r_iload_n (pc := 37) C 1 dX8_open_37 rfl rfl ?_
        refine r_callV (pc := 38) (is := [1]) C YX6_isOpen dX8_open_38 tw_400 (c_X6_isOpen l G _ _ _ (by first | assumption | omega | exact zand_rng _ _ | exact zor_rng _ _ | exact zxor_rng _ _ | exact BT.r (IT.b (by assumption)) _ _) (by first | assumption | omega | exact zand_rng _ _ | exact zor_rng _ _ | exact zxor_rng _ _ | exact BT.r (IT.b (by assumption)) _ _)) 1 0 rfl rfl (ci := 6) rfl rfl rfl (by decide) rfl rfl (Nat.le_of_ble_eq_true rfl) ⟨rfl, rfl, by decide, by decide⟩ (jst_i (C_u1 ..) ?_)
        refine r_ifb_eq (pc := 41) (tgt := 48) C dX8_open_41 (by decide) (fun c41 => ?_) (fun c41 => ?_)
        · refine r_iconst (pc := 48) C dX8_open_48 ?_
          refine r_istore_n (pc := 49) C 3 dX8_open_49 rfl (Nat.le_of_ble_eq_true rfl) ?_
          refine r_iload_n (pc := 50) C 3 dX8_open_50 rfl rfl ?_
          refine r_iload_n (pc := 51) C 2 dX8_open_51 rfl rfl ?_
          refine r_icmp_eq (pc := 52) (tgt := 64) C dX8_open_52 (by decide) (by first | omega | exact zand_rng _ _ | exact zor_rng _ _ | exact zxor_rng _ _ | exact BT.r (IT.b (by assumption)) _ _) (by first | omega | exact zand_rng _ _ | exact zor_rng _ _ | exact zxor_rng _ _ | exact BT.r (IT.b (by assumption)) _ _) (fun c52 => ?_) (fun c52 => ?_)
          · refine r_iload_n (pc := 64) C 3 dX8_open_64 rfl rfl ?_
            exact r_iret (pc := 65) C hQ dX8_open_65 rfl (fin_okC (by unfold q_open; (repeat (first | rw [if_pos (by omega)] | rw [if_neg (by omega)])); (try first | rfl | assumption | omega)) (by omega) (by first | (exfalso; omega) | (unfold sSet; first | (rw [if_pos (by omega), up_same (T := N) (a := 0) (z := 2) rfl]; done) | (rw [if_neg (show ¬ zbit (N 0 2) z = i by omega), if_pos (show i = 1 by omega), zx_s (by omega) (by omega), if_neg (show ¬ zbit (N 0 2) z = 1 by omega)]; done) | (rw [if_neg (show ¬ zbit (N 0 2) z = i by omega), if_neg (show ¬ i = 1 by omega), zx_s (by omega) (by omega), if_pos (show zbit (N 0 2) z = 1 by omega)]; done))))
          · refine r_aload_n (pc := 55) C 0 dX8_open_55 rfl rfl ?_
            refine r_get (pc := 56) C 0 0 0 dX8_open_56 in_X8 rfl rfl (ci := 8) rfl (by decide) tw_143 rfl rfl ?_
            refine r_iload_n (pc := 59) C 1 dX8_open_59 rfl rfl ?_
            refine r_callV (pc := 60) (is := [1]) C YX6_turnWindows dX8_open_60 tw_516 (c_X6_turnWindows l G _ _ _ (by first | assumption | omega | exact zand_rng _ _ | exact zor_rng _ _ | exact zxor_rng _ _ | exact BT.r (IT.b (by assumption)) _ _) (by first | assumption | omega | exact zand_rng _ _ | exact zor_rng _ _ | exact zxor_rng _ _ | exact BT.r (IT.b (by assumption)) _ _)) 1 0 rfl rfl (ci := 6) rfl rfl rfl (by decide) rfl rfl (Nat.le_of_ble_eq_true rfl) ⟨rfl, rfl, by decide, by decide⟩ (jst_i (C_u1 ..) ?_)
            rw [if_pos c8]
            refine r_pop (pc := 63) C dX8_open_63 rfl ?_
            refine r_iload_n (pc := 64) C 3 dX8_open_64 rfl rfl ?_
            exact r_iret (pc := 65) C hQ dX8_open_65 rfl (fin_okC (by unfold q_open; (repeat (first | rw [if_pos (by omega)] | rw [if_neg (by omega)])); (try first | rfl | assumption | omega)) (by omega) (by first | (exfalso; omega) | (unfold sSet; first | (rw [if_pos (by omega), up_same (T := N) (a := 0) (z := 2) rfl]; done) | (rw [if_neg (show ¬ zbit (N 0 2) z = i by omega), if_pos (show i = 1 by omega), zx_s (by omega) (by omega), if_neg (show ¬ zbit (N 0 2) z = 1 by omega)]; done) | (rw [if_neg (show ¬ zbit (N 0 2) z = i by omega), if_neg (show ¬ i = 1 by omega), zx_s (by omega) (by omega), if_pos (show zbit (N 0 2) z = 1 by omega)]; done))))
        · refine r_iconst (pc := 44) C dX8_open_44 ?_
          refine r_goto (pc := 45) (tgt := 49) C dX8_open_45 (by decide) ?_
          refine r_istore_n (pc := 49) C 3 dX8_open_49 rfl (Nat.le_of_ble_eq_true rfl) ?_
          refine r_iload_n (pc := 50) C 3 dX8_open_50 rfl rfl ?_
          refine r_iload_n (pc := 51) C 2 dX8_open_51 rfl rfl ?_
          refine r_icmp_eq (pc := 52) (tgt := 64) C dX8_open_52 (by decide) (by first | omega | exact zand_rng _ _ | exact zor_rng _ _ | exact zxor_rng _ _ | exact BT.r (IT.b (by assumption)) _ _) (by first | omega | exact zand_rng _ _ | exact zor_rng _ _ | exact zxor_rng _ _ | exact BT.r (IT.b (by assumption)) _ _) (fun c52 => ?_) (fun c52 => ?_)
          · refine r_iload_n (pc := 64) C 3 dX8_open_64 rfl rfl ?_
            exact r_iret (pc := 65) C hQ dX8_open_65 rfl (fin_okC (by unfold q_open; (repeat (first | rw [if_pos (by omega)] | rw [if_neg (by omega)])); (try first | rfl | assumption | omega)) (by omega) (by first | (exfalso; omega) | (unfold sSet; first | (rw [if_pos (by omega), up_same (T := N) (a := 0) (z := 2) rfl]; done) | (rw [if_neg (show ¬ zbit (N 0 2) z = i by omega), if_pos (show i = 1 by omega), zx_s (by omega) (by omega), if_neg (show ¬ zbit (N 0 2) z = 1 by omega)]; done) | (rw [if_neg (show ¬ zbit (N 0 2) z = i by omega), if_neg (show ¬ i = 1 by omega), zx_s (by omega) (by omega), if_pos (show zbit (N 0 2) z = 1 by omega)]; done))))
          · refine r_aload_n (pc := 55) C 0 dX8_open_55 rfl rfl ?_
            refine r_get (pc := 56) C 0 0 0 dX8_open_56 in_X8 rfl rfl (ci := 8) rfl (by decide) tw_143 rfl rfl ?_
            refine r_iload_n (pc := 59) C 1 dX8_open_59 rfl rfl ?_
            refine r_callV (pc := 60) (is := [1]) C YX6_turnWindows dX8_open_60 tw_516 (c_X6_turnWindows l G _ _ _ (by first | assumption | omega | exact zand_rng _ _ | exact zor_rng _ _ | exact zxor_rng _ _ | exact BT.r (IT.b (by assumption)) _ _) (by first | assumption | omega | exact zand_rng _ _ | exact zor_rng _ _ | exact zxor_rng _ _ | exact BT.r (IT.b (by assumption)) _ _)) 1 0 rfl rfl (ci := 6) rfl rfl rfl (by decide) rfl rfl (Nat.le_of_ble_eq_true rfl) ⟨rfl, rfl, by decide, by decide⟩ (jst_i (C_u1 ..) ?_)
            rw [if_pos c8]
            refine r_pop (pc := 63) C dX8_open_63 rfl ?_
            refine r_iload_n (pc := 64) C 3 dX8_open_64 rfl rfl ?_
            exact r_iret (pc := 65) C hQ dX8_open_65 rfl (fin_okC (by unfold q_open; (repeat (first | rw [if_pos (by omega)] | rw [if_neg (by omega)])); (try first | rfl | assumption | omega)) (by omega) (by first | (exfalso; omega) | (unfold sSet; first | (rw [if_pos (by omega), up_same (T := N) (a := 0) (z := 2) rfl]; done) | (rw [if_neg (show ¬ zbit (N 0 2) z = i by omega), if_pos (show i = 1 by omega), zx_s (by omega) (by omega), if_neg (show ¬ zbit (N 0 2) z = 1 by omega)]; done) | (rw [if_neg (show ¬ zbit (N 0 2) z = i by omega), if_neg (show ¬ i = 1 by omega), zx_s (by omega) (by omega), if_pos (show zbit (N 0 2) z = 1 by omega)]; done))))
      · refine r_aload_n (pc := 26) C 0 dX8_open_26 rfl rfl ?_
        refine r_bipush (pc := 27) C dX8_open_27 (by decide) ?_
        refine r_callV (pc := 29) (is := [0, 1, 2, 3, 4]) C YX8_refuse dX8_open_29 tw_185 (c_X8_refuse l G _ _ _ _ _ _ _ (by first | assumption | omega | exact zand_rng _ _ | exact zor_rng _ _ | exact zxor_rng _ _ | exact BT.r (IT.b (by assumption)) _ _)) 0 0 rfl rfl (ci := 8) rfl rfl rfl (by decide) rfl rfl (Nat.le_of_ble_eq_true rfl) ⟨rfl, rfl, by decide, by decide⟩ (jst_i (C_uall ..) ?_)
        exact r_iret (pc := 32) C hQ dX8_open_32 rfl (fin_noC (by unfold q_open; (repeat (first | rw [if_pos (by omega)] | rw [if_neg (by omega)])); (try first | rfl | assumption | omega)) (by omega) rfl)
  · refine r_aload_n (pc := 11) C 0 dX8_open_11 rfl rfl ?_
    refine r_iconst (pc := 12) C dX8_open_12 ?_
    refine r_callV (pc := 13) (is := [0, 1, 2, 3, 4]) C YX8_refuse dX8_open_13 tw_185 (c_X8_refuse l G _ _ _ _ _ _ _ (by first | assumption | omega | exact zand_rng _ _ | exact zor_rng _ _ | exact zxor_rng _ _ | exact BT.r (IT.b (by assumption)) _ _)) 0 0 rfl rfl (ci := 8) rfl rfl rfl (by decide) rfl rfl (Nat.le_of_ble_eq_true rfl) ⟨rfl, rfl, by decide, by decide⟩ (jst_i (C_uall ..) ?_)
    exact r_iret (pc := 16) C hQ dX8_open_16 rfl (fin_noC (by unfold q_open; (repeat (first | rw [if_pos (by omega)] | rw [if_neg (by omega)])); (try first | rfl | assumption | omega)) (by omega) rfl)

set_option maxRecDepth 100000 in
set_option maxHeartbeats 4000000 in
theorem c_X8_hawk (l : Launch) (G : GT) (a : Nat → Nat) (X N M P S : Tn) (v : Int) (hI : IT N) (hX : IX X S) (gv : -2147483648 ≤ v ∧ v < 2147483648) : Cn l yX8_hawk cX8_hawk 4 (Option.some .int) ({ frames := 1, cells := 0, slots := 0, locals := 22 }) G [.ref (a 0), .int (iI v)] (wC G a X N M P S) (jst (some (.int (iI (zans (sOut v 0 20) (N 0 3))))) (wC G a (zif (sOut v 0 20) (X) (xrf X (sOut v 0 20))) (zif (sOut v 0 20) (up N 0 3 v) N) (zif (sOut v 0 20) (M) M) (zif (sOut v 0 20) (P) P) (zif (sOut v 0 20) (S) S))) := by
  refine Cn_in RX8 [some (.ref (a 0)), some (.int (iI v)), none, none] (by decide +kernel) rfl rfl rfl (Nat.le_of_ble_eq_true rfl) (fun K C hQ => ?_)
  obtain ⟨x1, s1, x3, s6, x8⟩ := hX
  have hBB := hI.b
  have hLL := hI.L
  have hDD := hI.D
  have hkk := hI.k
  refine r_iload_n (pc := 0) C 1 dX8_hawk_0 rfl rfl ?_
  refine r_iconst (pc := 1) C dX8_hawk_1 ?_
  refine r_bipush (pc := 2) C dX8_hawk_2 (by decide) ?_
  refine r_callS (pc := 4) (is := []) C YX8_outside dX8_hawk_4 tw_178 (c_X8_outside l G _ _ _ (by first | assumption | omega | exact zand_rng _ _ | exact zor_rng _ _ | exact zxor_rng _ _ | exact BT.r (IT.b (by assumption)) _ _) (by first | assumption | omega | exact zand_rng _ _ | exact zor_rng _ _ | exact zxor_rng _ _ | exact BT.r (IT.b (by assumption)) _ _) (by first | assumption | omega | exact zand_rng _ _ | exact zor_rng _ _ | exact zxor_rng _ _ | exact BT.r (IT.b (by assumption)) _ _)) rfl (by decide) rfl rfl (Nat.le_of_ble_eq_true rfl) ⟨rfl, rfl, by decide, by decide⟩ (jst_i (ups_nil _) ?_)
  have hs4 := sOut_r v 0 20 (by decide)
  refine r_istore_n (pc := 7) C 2 dX8_hawk_7 rfl (Nat.le_of_ble_eq_true rfl) ?_
  refine r_iload_n (pc := 8) C 2 dX8_hawk_8 rfl rfl ?_
  refine r_if_eq (pc := 9) (tgt := 18) C dX8_hawk_9 (by decide) (by first | omega | exact zand_rng _ _ | exact zor_rng _ _ | exact zxor_rng _ _ | exact BT.r (IT.b (by assumption)) _ _) (fun c9 => ?_) (fun c9 => ?_)
  · refine r_aload_n (pc := 18) C 0 dX8_hawk_18 rfl rfl ?_
    refine r_get (pc := 19) C 0 0 0 dX8_hawk_19 in_X8 rfl rfl (ci := 8) rfl (by decide) tw_143 rfl rfl ?_
    refine r_get (pc := 22) C 1 0 11 dX8_hawk_22 in_X6 rfl rfl (ci := 6) rfl (by decide) tw_98 rfl rfl ?_
    refine r_istore_n (pc := 25) C 3 dX8_hawk_25 rfl (Nat.le_of_ble_eq_true rfl) ?_
    refine r_aload_n (pc := 26) C 0 dX8_hawk_26 rfl rfl ?_
    refine r_get (pc := 27) C 0 0 0 dX8_hawk_27 in_X8 rfl rfl (ci := 8) rfl (by decide) tw_143 rfl rfl ?_
    refine r_iload_n (pc := 30) C 1 dX8_hawk_30 rfl rfl ?_
    refine r_put (pc := 31) C 1 0 11 dX8_hawk_31 in_X6 tyX6_ok nmX6 rfl rfl (ci := 6) rfl (by decide) tw_98 rfl rfl (tyX6_ok 11 (by decide)) rfl rfl (Nat.le_of_ble_eq_true rfl) rfl (C_p1_11 ..) ?_
    refine r_iload_n (pc := 34) C 3 dX8_hawk_34 rfl rfl ?_
    exact r_iret (pc := 35) C hQ dX8_hawk_35 rfl (fin_okC (by first | rfl | assumption) (by first | rfl | omega) (by rfl))
  · refine r_aload_n (pc := 12) C 0 dX8_hawk_12 rfl rfl ?_
    refine r_iload_n (pc := 13) C 2 dX8_hawk_13 rfl rfl ?_
    refine r_callV (pc := 14) (is := [0, 1, 2, 3, 4]) C YX8_refuse dX8_hawk_14 tw_185 (c_X8_refuse l G _ _ _ _ _ _ _ (by first | assumption | omega | exact zand_rng _ _ | exact zor_rng _ _ | exact zxor_rng _ _ | exact BT.r (IT.b (by assumption)) _ _)) 0 0 rfl rfl (ci := 8) rfl rfl rfl (by decide) rfl rfl (Nat.le_of_ble_eq_true rfl) ⟨rfl, rfl, by decide, by decide⟩ (jst_i (C_uall ..) ?_)
    exact r_iret (pc := 17) C hQ dX8_hawk_17 rfl (fin_noC (by first | rfl | assumption) (by omega) rfl)

set_option maxRecDepth 100000 in
set_option maxHeartbeats 4000000 in
theorem c_X8_carry (l : Launch) (G : GT) (a : Nat → Nat) (X N M P S : Tn) (d z : Int) (hI : IT N) (hX : IX X S) (gd : -2147483648 ≤ d ∧ d < 2147483648) (gz : -2147483648 ≤ z ∧ z < 2147483648) : Cn l yX8_carry cX8_carry 4 (Option.some .int) ({ frames := 2, cells := 0, slots := 0, locals := 42 }) G [.ref (a 0), .int (iI d), .int (iI z)] (wC G a X N M P S) (jst (some (.int (iI (zans (q_carry N d z) (N 6 d))))) (wC G a (zif (q_carry N d z) (X) (xrf X (q_carry N d z))) (zif (q_carry N d z) (up N 6 d z) N) (zif (q_carry N d z) (M) M) (zif (q_carry N d z) (P) P) (zif (q_carry N d z) (S) S))) := by
  refine Cn_in RX8 [some (.ref (a 0)), some (.int (iI d)), some (.int (iI z)), none] (by decide +kernel) rfl rfl rfl (Nat.le_of_ble_eq_true rfl) (fun K C hQ => ?_)
  obtain ⟨x1, s1, x3, s6, x8⟩ := hX
  have hBB := hI.b
  have hLL := hI.L
  have hDD := hI.D
  have hkk := hI.k
  refine r_aload_n (pc := 0) C 0 dX8_carry_0 rfl rfl ?_
  refine r_get (pc := 1) C 0 0 0 dX8_carry_1 in_X8 rfl rfl (ci := 8) rfl (by decide) tw_143 rfl rfl ?_
  refine r_iload_n (pc := 4) C 1 dX8_carry_4 rfl rfl ?_
  refine r_callV (pc := 5) (is := [1]) C YX6_hasDove dX8_carry_5 tw_476 (c_X6_hasDove l G _ _ _ (by first | assumption | omega | exact zand_rng _ _ | exact zor_rng _ _ | exact zxor_rng _ _ | exact BT.r (IT.b (by assumption)) _ _) (by first | assumption | omega | exact zand_rng _ _ | exact zor_rng _ _ | exact zxor_rng _ _ | exact BT.r (IT.b (by assumption)) _ _)) 1 0 rfl rfl (ci := 6) rfl rfl rfl (by decide) rfl rfl (Nat.le_of_ble_eq_true rfl) ⟨rfl, rfl, by decide, by decide⟩ (jst_i (C_u1 ..) ?_)
  refine r_ifb_eq (pc := 8) (tgt := 22) C dX8_carry_8 (by decide) (fun c8 => ?_) (fun c8 => ?_)
  · refine r_aload_n (pc := 22) C 0 dX8_carry_22 rfl rfl ?_
    refine r_iconst (pc := 23) C dX8_carry_23 ?_
    refine r_callV (pc := 24) (is := [0, 1, 2, 3, 4]) C YX8_refuse dX8_carry_24 tw_185 (c_X8_refuse l G _ _ _ _ _ _ _ (by first | assumption | omega | exact zand_rng _ _ | exact zor_rng _ _ | exact zxor_rng _ _ | exact BT.r (IT.b (by assumption)) _ _)) 0 0 rfl rfl (ci := 8) rfl rfl rfl (by decide) rfl rfl (Nat.le_of_ble_eq_true rfl) ⟨rfl, rfl, by decide, by decide⟩ (jst_i (C_uall ..) ?_)
    exact r_iret (pc := 27) C hQ dX8_carry_27 rfl (fin_noC (by unfold q_carry; (repeat (first | rw [if_pos (by omega)] | rw [if_neg (by omega)])); (try first | rfl | assumption | omega)) (by omega) rfl)
  · refine r_aload_n (pc := 11) C 0 dX8_carry_11 rfl rfl ?_
    refine r_get (pc := 12) C 0 0 0 dX8_carry_12 in_X8 rfl rfl (ci := 8) rfl (by decide) tw_143 rfl rfl ?_
    refine r_iload_n (pc := 15) C 2 dX8_carry_15 rfl rfl ?_
    refine r_callV (pc := 16) (is := [1]) C YX6_hasLoft dX8_carry_16 tw_399 (c_X6_hasLoft l G _ _ _ (by first | assumption | omega | exact zand_rng _ _ | exact zor_rng _ _ | exact zxor_rng _ _ | exact BT.r (IT.b (by assumption)) _ _) (by first | assumption | omega | exact zand_rng _ _ | exact zor_rng _ _ | exact zxor_rng _ _ | exact BT.r (IT.b (by assumption)) _ _)) 1 0 rfl rfl (ci := 6) rfl rfl rfl (by decide) rfl rfl (Nat.le_of_ble_eq_true rfl) ⟨rfl, rfl, by decide, by decide⟩ (jst_i (C_u1 ..) ?_)
    refine r_ifb_ne (pc := 19) (tgt := 28) C dX8_carry_19 (by decide) (fun c19 => ?_) (fun c19 => ?_)
    · refine r_aload_n (pc := 28) C 0 dX8_carry_28 rfl rfl ?_
      refine r_get (pc := 29) C 0 0 0 dX8_carry_29 in_X8 rfl rfl (ci := 8) rfl (by decide) tw_143 rfl rfl ?_
      refine r_iload_n (pc := 32) C 1 dX8_carry_32 rfl rfl ?_
      refine r_callV (pc := 33) (is := [1]) C YX6_isLost dX8_carry_33 tw_525 (c_X6_isLost l G _ _ _ (by first | assumption | omega | exact zand_rng _ _ | exact zor_rng _ _ | exact zxor_rng _ _ | exact BT.r (IT.b (by assumption)) _ _) (by first | assumption | omega | exact zand_rng _ _ | exact zor_rng _ _ | exact zxor_rng _ _ | exact BT.r (IT.b (by assumption)) _ _)) 1 0 rfl rfl (ci := 6) rfl rfl rfl (by decide) rfl rfl (Nat.le_of_ble_eq_true rfl) ⟨rfl, rfl, by decide, by decide⟩ (jst_i (C_u1 ..) ?_)
      refine r_ifb_eq (pc := 36) (tgt := 46) C dX8_carry_36 (by decide) (fun c36 => ?_) (fun c36 => ?_)
      · refine r_aload_n (pc := 46) C 0 dX8_carry_46 rfl rfl ?_
        refine r_get (pc := 47) C 0 0 0 dX8_carry_47 in_X8 rfl rfl (ci := 8) rfl (by decide) tw_143 rfl rfl ?_
        refine r_get (pc := 50) C 1 0 6 dX8_carry_50 in_X6 rfl rfl (ci := 6) rfl (by decide) tw_88 rfl rfl ?_
        refine r_iload_n (pc := 53) C 1 dX8_carry_53 rfl rfl ?_
        refine r_iaload (pc := 54) C 1 7 dX8_carry_54 rfl rfl (by decide) (by omega) ?_
        refine r_istore_n (pc := 55) C 3 dX8_carry_55 rfl (Nat.le_of_ble_eq_true rfl) ?_
        refine r_aload_n (pc := 56) C 0 dX8_carry_56 rfl rfl ?_
        refine r_get (pc := 57) C 0 0 0 dX8_carry_57 in_X8 rfl rfl (ci := 8) rfl (by decide) tw_143 rfl rfl ?_
        refine r_get (pc := 60) C 1 0 6 dX8_carry_60 in_X6 rfl rfl (ci := 6) rfl (by decide) tw_88 rfl rfl ?_
        refine r_iload_n (pc := 63) C 1 dX8_carry_63 rfl rfl ?_
        refine r_iload_n (pc := 64) C 2 dX8_carry_64 rfl rfl ?_
        refine r_iastore (pc := 65) C 1 7 dX8_carry_65 rfl rfl (by decide) (by omega) rfl (C_a1_7 ..) ?_
        refine r_iload_n (pc := 66) C 3 dX8_carry_66 rfl rfl ?_
        exact r_iret (pc := 67) C hQ dX8_carry_67 rfl (fin_okC (by unfold q_carry; (repeat (first | rw [if_pos (by omega)] | rw [if_neg (by omega)])); (try first | rfl | assumption | omega)) (by first | rfl | omega) (by rfl))
      · refine r_aload_n (pc := 39) C 0 dX8_carry_39 rfl rfl ?_
        refine r_bipush (pc := 40) C dX8_carry_40 (by decide) ?_
        refine r_callV (pc := 42) (is := [0, 1, 2, 3, 4]) C YX8_refuse dX8_carry_42 tw_185 (c_X8_refuse l G _ _ _ _ _ _ _ (by first | assumption | omega | exact zand_rng _ _ | exact zor_rng _ _ | exact zxor_rng _ _ | exact BT.r (IT.b (by assumption)) _ _)) 0 0 rfl rfl (ci := 8) rfl rfl rfl (by decide) rfl rfl (Nat.le_of_ble_eq_true rfl) ⟨rfl, rfl, by decide, by decide⟩ (jst_i (C_uall ..) ?_)
        exact r_iret (pc := 45) C hQ dX8_carry_45 rfl (fin_noC (by unfold q_carry; (repeat (first | rw [if_pos (by omega)] | rw [if_neg (by omega)])); (try first | rfl | assumption | omega)) (by omega) rfl)
    · refine r_aload_n (pc := 22) C 0 dX8_carry_22 rfl rfl ?_
      refine r_iconst (pc := 23) C dX8_carry_23 ?_
      refine r_callV (pc := 24) (is := [0, 1, 2, 3, 4]) C YX8_refuse dX8_carry_24 tw_185 (c_X8_refuse l G _ _ _ _ _ _ _ (by first | assumption | omega | exact zand_rng _ _ | exact zor_rng _ _ | exact zxor_rng _ _ | exact BT.r (IT.b (by assumption)) _ _)) 0 0 rfl rfl (ci := 8) rfl rfl rfl (by decide) rfl rfl (Nat.le_of_ble_eq_true rfl) ⟨rfl, rfl, by decide, by decide⟩ (jst_i (C_uall ..) ?_)
      exact r_iret (pc := 27) C hQ dX8_carry_27 rfl (fin_noC (by unfold q_carry; (repeat (first | rw [if_pos (by omega)] | rw [if_neg (by omega)])); (try first | rfl | assumption | omega)) (by omega) rfl)

set_option maxRecDepth 100000 in
set_option maxHeartbeats 4000000 in
theorem c_X8_clip (l : Launch) (G : GT) (a : Nat → Nat) (X N M P S : Tn) (d k : Int) (hI : IT N) (hX : IX X S) (gd : -2147483648 ≤ d ∧ d < 2147483648) (gk : -2147483648 ≤ k ∧ k < 2147483648) : Cn l yX8_clip cX8_clip 5 (Option.some .int) ({ frames := 1, cells := 0, slots := 0, locals := 22 }) G [.ref (a 0), .int (iI d), .int (iI k)] (wC G a X N M P S) (jst (some (.int (iI (zans (q_clip N d k) (N 7 d))))) (wC G a (zif (q_clip N d k) (X) (xrf X (q_clip N d k))) (zif (q_clip N d k) (up N 7 d k) N) (zif (q_clip N d k) (M) M) (zif (q_clip N d k) (P) P) (zif (q_clip N d k) (S) S))) := by
  refine Cn_in RX8 [some (.ref (a 0)), some (.int (iI d)), some (.int (iI k)), none, none] (by decide +kernel) rfl rfl rfl (Nat.le_of_ble_eq_true rfl) (fun K C hQ => ?_)
  obtain ⟨x1, s1, x3, s6, x8⟩ := hX
  have hBB := hI.b
  have hLL := hI.L
  have hDD := hI.D
  have hkk := hI.k
  refine r_aload_n (pc := 0) C 0 dX8_clip_0 rfl rfl ?_
  refine r_get (pc := 1) C 0 0 0 dX8_clip_1 in_X8 rfl rfl (ci := 8) rfl (by decide) tw_143 rfl rfl ?_
  refine r_iload_n (pc := 4) C 1 dX8_clip_4 rfl rfl ?_
  refine r_callV (pc := 5) (is := [1]) C YX6_hasDove dX8_clip_5 tw_476 (c_X6_hasDove l G _ _ _ (by first | assumption | omega | exact zand_rng _ _ | exact zor_rng _ _ | exact zxor_rng _ _ | exact BT.r (IT.b (by assumption)) _ _) (by first | assumption | omega | exact zand_rng _ _ | exact zor_rng _ _ | exact zxor_rng _ _ | exact BT.r (IT.b (by assumption)) _ _)) 1 0 rfl rfl (ci := 6) rfl rfl rfl (by decide) rfl rfl (Nat.le_of_ble_eq_true rfl) ⟨rfl, rfl, by decide, by decide⟩ (jst_i (C_u1 ..) ?_)
  refine r_ifb_eq (pc := 8) (tgt := 21) C dX8_clip_8 (by decide) (fun c8 => ?_) (fun c8 => ?_)
  · refine r_iconst (pc := 21) C dX8_clip_21 ?_
    refine r_istore_n (pc := 22) C 3 dX8_clip_22 rfl (Nat.le_of_ble_eq_true rfl) ?_
    refine r_iload_n (pc := 23) C 3 dX8_clip_23 rfl rfl ?_
    refine r_if_eq (pc := 24) (tgt := 33) C dX8_clip_24 (by decide) (by first | omega | exact zand_rng _ _ | exact zor_rng _ _ | exact zxor_rng _ _ | exact BT.r (IT.b (by assumption)) _ _) (fun c24 => absurd c24 (by omega)) (fun c24 => ?_)
    refine r_aload_n (pc := 27) C 0 dX8_clip_27 rfl rfl ?_
    refine r_iload_n (pc := 28) C 3 dX8_clip_28 rfl rfl ?_
    refine r_callV (pc := 29) (is := [0, 1, 2, 3, 4]) C YX8_refuse dX8_clip_29 tw_185 (c_X8_refuse l G _ _ _ _ _ _ _ (by first | assumption | omega | exact zand_rng _ _ | exact zor_rng _ _ | exact zxor_rng _ _ | exact BT.r (IT.b (by assumption)) _ _)) 0 0 rfl rfl (ci := 8) rfl rfl rfl (by decide) rfl rfl (Nat.le_of_ble_eq_true rfl) ⟨rfl, rfl, by decide, by decide⟩ (jst_i (C_uall ..) ?_)
    exact r_iret (pc := 32) C hQ dX8_clip_32 rfl (fin_noC (by unfold q_clip; (repeat (first | rw [if_pos (by omega)] | rw [if_neg (by omega)])); (try first | rfl | assumption | omega)) (by omega) rfl)
  · refine r_iload_n (pc := 11) C 2 dX8_clip_11 rfl rfl ?_
    refine r_iconst (pc := 12) C dX8_clip_12 ?_
    refine r_bipush (pc := 13) C dX8_clip_13 (by decide) ?_
    refine r_callS (pc := 15) (is := []) C YX8_outside dX8_clip_15 tw_178 (c_X8_outside l G _ _ _ (by first | assumption | omega | exact zand_rng _ _ | exact zor_rng _ _ | exact zxor_rng _ _ | exact BT.r (IT.b (by assumption)) _ _) (by first | assumption | omega | exact zand_rng _ _ | exact zor_rng _ _ | exact zxor_rng _ _ | exact BT.r (IT.b (by assumption)) _ _) (by first | assumption | omega | exact zand_rng _ _ | exact zor_rng _ _ | exact zxor_rng _ _ | exact BT.r (IT.b (by assumption)) _ _)) rfl (by decide) rfl rfl (Nat.le_of_ble_eq_true rfl) ⟨rfl, rfl, by decide, by decide⟩ (jst_i (ups_nil _) ?_)
    have hs15 := sOut_r k 0 9 (by decide)
    refine r_goto (pc := 18) (tgt := 22) C dX8_clip_18 (by decide) ?_
    refine r_istore_n (pc := 22) C 3 dX8_clip_22 rfl (Nat.le_of_ble_eq_true rfl) ?_
    refine r_iload_n (pc := 23) C 3 dX8_clip_23 rfl rfl ?_
    refine r_if_eq (pc := 24) (tgt := 33) C dX8_clip_24 (by decide) (by first | omega | exact zand_rng _ _ | exact zor_rng _ _ | exact zxor_rng _ _ | exact BT.r (IT.b (by assumption)) _ _) (fun c24 => ?_) (fun c24 => ?_)
    · refine r_aload_n (pc := 33) C 0 dX8_clip_33 rfl rfl ?_
      refine r_get (pc := 34) C 0 0 0 dX8_clip_34 in_X8 rfl rfl (ci := 8) rfl (by decide) tw_143 rfl rfl ?_
      refine r_get (pc := 37) C 1 0 7 dX8_clip_37 in_X6 rfl rfl (ci := 6) rfl (by decide) tw_90 rfl rfl ?_
      refine r_iload_n (pc := 40) C 1 dX8_clip_40 rfl rfl ?_
      refine r_iaload (pc := 41) C 1 8 dX8_clip_41 rfl rfl (by decide) (by omega) ?_
      refine r_istore (pc := 42) C dX8_clip_42 (Nat.le_of_ble_eq_true rfl) ?_
      refine r_aload_n (pc := 44) C 0 dX8_clip_44 rfl rfl ?_
      refine r_get (pc := 45) C 0 0 0 dX8_clip_45 in_X8 rfl rfl (ci := 8) rfl (by decide) tw_143 rfl rfl ?_
      refine r_get (pc := 48) C 1 0 7 dX8_clip_48 in_X6 rfl rfl (ci := 6) rfl (by decide) tw_90 rfl rfl ?_
      refine r_iload_n (pc := 51) C 1 dX8_clip_51 rfl rfl ?_
      refine r_iload_n (pc := 52) C 2 dX8_clip_52 rfl rfl ?_
      refine r_iastore (pc := 53) C 1 8 dX8_clip_53 rfl rfl (by decide) (by omega) rfl (C_a1_8 ..) ?_
      refine r_iload (pc := 54) C dX8_clip_54 rfl ?_
      exact r_iret (pc := 56) C hQ dX8_clip_56 rfl (fin_okC (by unfold q_clip; (repeat (first | rw [if_pos (by omega)] | rw [if_neg (by omega)])); (try first | rfl | assumption | omega)) (by first | rfl | omega) (by rfl))
    · refine r_aload_n (pc := 27) C 0 dX8_clip_27 rfl rfl ?_
      refine r_iload_n (pc := 28) C 3 dX8_clip_28 rfl rfl ?_
      refine r_callV (pc := 29) (is := [0, 1, 2, 3, 4]) C YX8_refuse dX8_clip_29 tw_185 (c_X8_refuse l G _ _ _ _ _ _ _ (by first | assumption | omega | exact zand_rng _ _ | exact zor_rng _ _ | exact zxor_rng _ _ | exact BT.r (IT.b (by assumption)) _ _)) 0 0 rfl rfl (ci := 8) rfl rfl rfl (by decide) rfl rfl (Nat.le_of_ble_eq_true rfl) ⟨rfl, rfl, by decide, by decide⟩ (jst_i (C_uall ..) ?_)
      exact r_iret (pc := 32) C hQ dX8_clip_32 rfl (fin_noC (by unfold q_clip; (repeat (first | rw [if_pos (by omega)] | rw [if_neg (by omega)])); (try first | rfl | assumption | omega)) (by omega) rfl)

set_option maxRecDepth 100000 in
set_option maxHeartbeats 4000000 in
theorem c_X8_go (l : Launch) (G : GT) (a : Nat → Nat) (X N M P S : Tn) (d : Int) (hI : IT N) (hX : IX X S) (gd : -2147483648 ≤ d ∧ d < 2147483648) : Cn l yX8_go cX8_go 2 (Option.some .int) ({ frames := 5, cells := 0, slots := 0, locals := 116 }) G [.ref (a 0), .int (iI d)] (wC G a X N M P S) (jst (some (.int (iI (zans (q_go N d) (sGo N d 99 6 d))))) (wC G a (zif (q_go N d) (X) (xrf X (q_go N d))) (zif (q_go N d) (sGo N d 99) N) (zif (q_go N d) (M) M) (zif (q_go N d) (P) P) (zif (q_go N d) (S) S))) := by
  refine Cn_in RX8 [some (.ref (a 0)), some (.int (iI d))] (by decide +kernel) rfl rfl rfl (Nat.le_of_ble_eq_true rfl) (fun K C hQ => ?_)
  obtain ⟨x1, s1, x3, s6, x8⟩ := hX
  have hBB := hI.b
  have hLL := hI.L
  have hDD := hI.D
  have hkk := hI.k
  refine r_aload_n (pc := 0) C 0 dX8_go_0 rfl rfl ?_
  refine r_get (pc := 1) C 0 0 0 dX8_go_1 in_X8 rfl rfl (ci := 8) rfl (by decide) tw_143 rfl rfl ?_
  refine r_iload_n (pc := 4) C 1 dX8_go_4 rfl rfl ?_
  refine r_callV (pc := 5) (is := [1]) C YX6_hasDove dX8_go_5 tw_476 (c_X6_hasDove l G _ _ _ (by first | assumption | omega | exact zand_rng _ _ | exact zor_rng _ _ | exact zxor_rng _ _ | exact BT.r (IT.b (by assumption)) _ _) (by first | assumption | omega | exact zand_rng _ _ | exact zor_rng _ _ | exact zxor_rng _ _ | exact BT.r (IT.b (by assumption)) _ _)) 1 0 rfl rfl (ci := 6) rfl rfl rfl (by decide) rfl rfl (Nat.le_of_ble_eq_true rfl) ⟨rfl, rfl, by decide, by decide⟩ (jst_i (C_u1 ..) ?_)
  refine r_ifb_ne (pc := 8) (tgt := 17) C dX8_go_8 (by decide) (fun c8 => ?_) (fun c8 => ?_)
  · refine r_aload_n (pc := 17) C 0 dX8_go_17 rfl rfl ?_
    refine r_get (pc := 18) C 0 0 0 dX8_go_18 in_X8 rfl rfl (ci := 8) rfl (by decide) tw_143 rfl rfl ?_
    refine r_iload_n (pc := 21) C 1 dX8_go_21 rfl rfl ?_
    refine r_callV (pc := 22) (is := [1]) C YX6_isLost dX8_go_22 tw_525 (c_X6_isLost l G _ _ _ (by first | assumption | omega | exact zand_rng _ _ | exact zor_rng _ _ | exact zxor_rng _ _ | exact BT.r (IT.b (by assumption)) _ _) (by first | assumption | omega | exact zand_rng _ _ | exact zor_rng _ _ | exact zxor_rng _ _ | exact BT.r (IT.b (by assumption)) _ _)) 1 0 rfl rfl (ci := 6) rfl rfl rfl (by decide) rfl rfl (Nat.le_of_ble_eq_true rfl) ⟨rfl, rfl, by decide, by decide⟩ (jst_i (C_u1 ..) ?_)
    refine r_ifb_ne (pc := 25) (tgt := 40) C dX8_go_25 (by decide) (fun c25 => ?_) (fun c25 => ?_)
    · refine r_aload_n (pc := 40) C 0 dX8_go_40 rfl rfl ?_
      refine r_bipush (pc := 41) C dX8_go_41 (by decide) ?_
      refine r_callV (pc := 43) (is := [0, 1, 2, 3, 4]) C YX8_refuse dX8_go_43 tw_185 (c_X8_refuse l G _ _ _ _ _ _ _ (by first | assumption | omega | exact zand_rng _ _ | exact zor_rng _ _ | exact zxor_rng _ _ | exact BT.r (IT.b (by assumption)) _ _)) 0 0 rfl rfl (ci := 8) rfl rfl rfl (by decide) rfl rfl (Nat.le_of_ble_eq_true rfl) ⟨rfl, rfl, by decide, by decide⟩ (jst_i (C_uall ..) ?_)
      exact r_iret (pc := 46) C hQ dX8_go_46 rfl (fin_noC (by unfold q_go; (repeat (first | rw [if_pos (by omega)] | rw [if_neg (by omega)])); (try first | rfl | assumption | omega)) (by omega) rfl)
    · refine r_aload_n (pc := 28) C 0 dX8_go_28 rfl rfl ?_
      refine r_get (pc := 29) C 0 0 0 dX8_go_29 in_X8 rfl rfl (ci := 8) rfl (by decide) tw_143 rfl rfl ?_
      refine r_get (pc := 32) C 1 0 7 dX8_go_32 in_X6 rfl rfl (ci := 6) rfl (by decide) tw_90 rfl rfl ?_
      refine r_iload_n (pc := 35) C 1 dX8_go_35 rfl rfl ?_
      refine r_iaload (pc := 36) C 1 8 dX8_go_36 rfl rfl (by decide) (by omega) ?_
      refine r_if_le (pc := 37) (tgt := 47) C dX8_go_37 (by decide) (by first | omega | exact zand_rng _ _ | exact zor_rng _ _ | exact zxor_rng _ _ | exact BT.r (IT.b (by assumption)) _ _) (fun c37 => ?_) (fun c37 => ?_)
      · have hgm := sGo_m (sGo_w hI (d := d) (by omega))
        have hff := sFly_r hI (d := d) (by omega) (by omega)
        have hdd := hI.d (d := d) (by omega) (by omega)
        refine r_aload_n (pc := 47) C 0 dX8_go_47 rfl rfl ?_
        refine r_get (pc := 48) C 0 0 0 dX8_go_48 in_X8 rfl rfl (ci := 8) rfl (by decide) tw_143 rfl rfl ?_
        refine r_get (pc := 51) C 1 0 6 dX8_go_51 in_X6 rfl rfl (ci := 6) rfl (by decide) tw_88 rfl rfl ?_
        refine r_iload_n (pc := 54) C 1 dX8_go_54 rfl rfl ?_
        refine r_aload_n (pc := 55) C 0 dX8_go_55 rfl rfl ?_
        refine r_get (pc := 56) C 0 0 0 dX8_go_56 in_X8 rfl rfl (ci := 8) rfl (by decide) tw_143 rfl rfl ?_
        refine r_iload_n (pc := 59) C 1 dX8_go_59 rfl rfl ?_
        refine r_callV (pc := 60) (is := [1]) C YX6_placeIfLetGo dX8_go_60 tw_534 (c_X6_placeIfLetGo l G _ _ _ (by first | assumption | omega | exact zand_rng _ _ | exact zor_rng _ _ | exact zxor_rng _ _ | exact BT.r (IT.b (by assumption)) _ _) (by first | assumption | omega | exact zand_rng _ _ | exact zor_rng _ _ | exact zxor_rng _ _ | exact BT.r (IT.b (by assumption)) _ _)) 1 0 rfl rfl (ci := 6) rfl rfl rfl (by decide) rfl rfl (Nat.le_of_ble_eq_true rfl) ⟨rfl, rfl, by decide, by decide⟩ (jst_i (C_u1 ..) ?_)
        refine r_iastore (pc := 63) C 1 7 dX8_go_63 rfl rfl (by decide) (by omega) rfl (C_a1_7 ..) ?_
        refine r_aload_n (pc := 64) C 0 dX8_go_64 rfl rfl ?_
        refine r_get (pc := 65) C 0 0 0 dX8_go_65 in_X8 rfl rfl (ci := 8) rfl (by decide) tw_143 rfl rfl ?_
        refine r_get (pc := 68) C 1 0 6 dX8_go_68 in_X6 rfl rfl (ci := 6) rfl (by decide) tw_88 rfl rfl ?_
        refine r_iload_n (pc := 71) C 1 dX8_go_71 rfl rfl ?_
        refine r_iaload (pc := 72) C 1 7 dX8_go_72 rfl rfl (by decide) (by omega) ?_
        exact r_iret (pc := 73) C hQ dX8_go_73 rfl (fin_okC (by unfold q_go; (repeat (first | rw [if_pos (by omega)] | rw [if_neg (by omega)])); (try first | rfl | assumption | omega)) (by rw [hgm]) (by rw [hgm]))
      · refine r_aload_n (pc := 40) C 0 dX8_go_40 rfl rfl ?_
        refine r_bipush (pc := 41) C dX8_go_41 (by decide) ?_
        refine r_callV (pc := 43) (is := [0, 1, 2, 3, 4]) C YX8_refuse dX8_go_43 tw_185 (c_X8_refuse l G _ _ _ _ _ _ _ (by first | assumption | omega | exact zand_rng _ _ | exact zor_rng _ _ | exact zxor_rng _ _ | exact BT.r (IT.b (by assumption)) _ _)) 0 0 rfl rfl (ci := 8) rfl rfl rfl (by decide) rfl rfl (Nat.le_of_ble_eq_true rfl) ⟨rfl, rfl, by decide, by decide⟩ (jst_i (C_uall ..) ?_)
        exact r_iret (pc := 46) C hQ dX8_go_46 rfl (fin_noC (by unfold q_go; (repeat (first | rw [if_pos (by omega)] | rw [if_neg (by omega)])); (try first | rfl | assumption | omega)) (by omega) rfl)
  · refine r_aload_n (pc := 11) C 0 dX8_go_11 rfl rfl ?_
    refine r_iconst (pc := 12) C dX8_go_12 ?_
    refine r_callV (pc := 13) (is := [0, 1, 2, 3, 4]) C YX8_refuse dX8_go_13 tw_185 (c_X8_refuse l G _ _ _ _ _ _ _ (by first | assumption | omega | exact zand_rng _ _ | exact zor_rng _ _ | exact zxor_rng _ _ | exact BT.r (IT.b (by assumption)) _ _)) 0 0 rfl rfl (ci := 8) rfl rfl rfl (by decide) rfl rfl (Nat.le_of_ble_eq_true rfl) ⟨rfl, rfl, by decide, by decide⟩ (jst_i (C_uall ..) ?_)
    exact r_iret (pc := 16) C hQ dX8_go_16 rfl (fin_noC (by unfold q_go; (repeat (first | rw [if_pos (by omega)] | rw [if_neg (by omega)])); (try first | rfl | assumption | omega)) (by omega) rfl)

set_option maxRecDepth 100000 in
set_option maxHeartbeats 4000000 in
theorem c_X8_dusk (l : Launch) (G : GT) (a : Nat → Nat) (X N M P S : Tn) (hI : IT N) (hX : IX X S) (hk9 : N 0 4 ≤ 999) : Cn l yX8_dusk cX8_dusk 1 (Option.some .int) ({ frames := 5, cells := 0, slots := 0, locals := 118 }) G [.ref (a 0)] (wC G a X N M P S) (jst (some (.int (iI (zans (q_dusk N) (sLost (sDusk N) (sDusk N 0 1) - sLost N (N 0 1)))))) (wC G a (zif (q_dusk N) (X) (xrf X (q_dusk N))) (zif (q_dusk N) (sDusk N) N) (zif (q_dusk N) (M) M) (zif (q_dusk N) (P) P) (zif (q_dusk N) (S) S))) := by
  refine Cn_in RX8 [some (.ref (a 0))] (by decide +kernel) rfl rfl rfl (Nat.le_of_ble_eq_true rfl) (fun K C hQ => ?_)
  obtain ⟨x1, s1, x3, s6, x8⟩ := hX
  have hBB := hI.b
  have hLL := hI.L
  have hDD := hI.D
  have hkk := hI.k
  refine r_aload_n (pc := 0) C 0 dX8_dusk_0 rfl rfl ?_
  refine r_get (pc := 1) C 0 0 0 dX8_dusk_1 in_X8 rfl rfl (ci := 8) rfl (by decide) tw_143 rfl rfl ?_
  refine r_get (pc := 4) C 1 0 12 dX8_dusk_4 in_X6 rfl rfl (ci := 6) rfl (by decide) tw_100 rfl rfl ?_
  refine r_sipush (pc := 7) C dX8_dusk_7 (by decide) ?_
  refine r_icmp_lt (pc := 10) (tgt := 20) C dX8_dusk_10 (by decide) (by first | omega | exact zand_rng _ _ | exact zor_rng _ _ | exact zxor_rng _ _ | exact BT.r (IT.b (by assumption)) _ _) (by first | omega | exact zand_rng _ _ | exact zor_rng _ _ | exact zxor_rng _ _ | exact BT.r (IT.b (by assumption)) _ _) (fun c10 => ?_) (fun c10 => ?_)
  · refine r_aload_n (pc := 20) C 0 dX8_dusk_20 rfl rfl ?_
    refine r_get (pc := 21) C 0 0 0 dX8_dusk_21 in_X8 rfl rfl (ci := 8) rfl (by decide) tw_143 rfl rfl ?_
    refine r_callV (pc := 24) (is := [1]) C YX6_passDusk dX8_dusk_24 tw_543 (c_X6_passDusk l G _ _ (by first | assumption | omega | exact zand_rng _ _ | exact zor_rng _ _ | exact zxor_rng _ _ | exact BT.r (IT.b (by assumption)) _ _) (by first | assumption | omega | exact zand_rng _ _ | exact zor_rng _ _ | exact zxor_rng _ _ | exact BT.r (IT.b (by assumption)) _ _)) 1 0 rfl rfl (ci := 6) rfl rfl rfl (by decide) rfl rfl (Nat.le_of_ble_eq_true rfl) ⟨rfl, rfl, by decide, by decide⟩ (jst_i (C_u1 ..) ?_)
    exact r_iret (pc := 27) C hQ dX8_dusk_27 rfl (fin_okC (by unfold q_dusk; (repeat (first | rw [if_pos (by omega)] | rw [if_neg (by omega)])); (try first | rfl | assumption | omega)) (by first | rfl | omega) (by rfl))
  · refine r_aload_n (pc := 13) C 0 dX8_dusk_13 rfl rfl ?_
    refine r_bipush (pc := 14) C dX8_dusk_14 (by decide) ?_
    refine r_callV (pc := 16) (is := [0, 1, 2, 3, 4]) C YX8_refuse dX8_dusk_16 tw_185 (c_X8_refuse l G _ _ _ _ _ _ _ (by first | assumption | omega | exact zand_rng _ _ | exact zor_rng _ _ | exact zxor_rng _ _ | exact BT.r (IT.b (by assumption)) _ _)) 0 0 rfl rfl (ci := 8) rfl rfl rfl (by decide) rfl rfl (Nat.le_of_ble_eq_true rfl) ⟨rfl, rfl, by decide, by decide⟩ (jst_i (C_uall ..) ?_)
    exact r_iret (pc := 19) C hQ dX8_dusk_19 rfl (fin_noC (by unfold q_dusk; (repeat (first | rw [if_pos (by omega)] | rw [if_neg (by omega)])); (try first | rfl | assumption | omega)) (by omega) rfl)

set_option maxRecDepth 100000 in
set_option maxHeartbeats 4000000 in
theorem c_X8_way (l : Launch) (G : GT) (a : Nat → Nat) (X N M P S : Tn) (x y : Int) (hI : IT N) (hX : IX X S) (gx : -2147483648 ≤ x ∧ x < 2147483648) (gy : -2147483648 ≤ y ∧ y < 2147483648) : Cn l yX8_way cX8_way 3 (Option.some .int) ({ frames := 1, cells := 0, slots := 0, locals := 24 }) G [.ref (a 0), .int (iI x), .int (iI y)] (wC G a X N M P S) (jst (some (.int (iI (zans (q_way N x y) (sWay N x y))))) (wC G a (zif (q_way N x y) (X) (xrf X (q_way N x y))) (zif (q_way N x y) (N) N) (zif (q_way N x y) (M) M) (zif (q_way N x y) (P) P) (zif (q_way N x y) (S) S))) := by
  refine Cn_in RX8 [some (.ref (a 0)), some (.int (iI x)), some (.int (iI y))] (by decide +kernel) rfl rfl rfl (Nat.le_of_ble_eq_true rfl) (fun K C hQ => ?_)
  obtain ⟨x1, s1, x3, s6, x8⟩ := hX
  have hBB := hI.b
  have hLL := hI.L
  have hDD := hI.D
  have hkk := hI.k
  refine r_aload_n (pc := 0) C 0 dX8_way_0 rfl rfl ?_
  refine r_get (pc := 1) C 0 0 0 dX8_way_1 in_X8 rfl rfl (ci := 8) rfl (by decide) tw_143 rfl rfl ?_
  refine r_iload_n (pc := 4) C 1 dX8_way_4 rfl rfl ?_
  refine r_callV (pc := 5) (is := [1]) C YX6_hasLoft dX8_way_5 tw_399 (c_X6_hasLoft l G _ _ _ (by first | assumption | omega | exact zand_rng _ _ | exact zor_rng _ _ | exact zxor_rng _ _ | exact BT.r (IT.b (by assumption)) _ _) (by first | assumption | omega | exact zand_rng _ _ | exact zor_rng _ _ | exact zxor_rng _ _ | exact BT.r (IT.b (by assumption)) _ _)) 1 0 rfl rfl (ci := 6) rfl rfl rfl (by decide) rfl rfl (Nat.le_of_ble_eq_true rfl) ⟨rfl, rfl, by decide, by decide⟩ (jst_i (C_u1 ..) ?_)
  refine r_ifb_eq (pc := 8) (tgt := 22) C dX8_way_8 (by decide) (fun c8 => ?_) (fun c8 => ?_)
  · refine r_aload_n (pc := 22) C 0 dX8_way_22 rfl rfl ?_
    refine r_iconst (pc := 23) C dX8_way_23 ?_
    refine r_callV (pc := 24) (is := [0, 1, 2, 3, 4]) C YX8_refuse dX8_way_24 tw_185 (c_X8_refuse l G _ _ _ _ _ _ _ (by first | assumption | omega | exact zand_rng _ _ | exact zor_rng _ _ | exact zxor_rng _ _ | exact BT.r (IT.b (by assumption)) _ _)) 0 0 rfl rfl (ci := 8) rfl rfl rfl (by decide) rfl rfl (Nat.le_of_ble_eq_true rfl) ⟨rfl, rfl, by decide, by decide⟩ (jst_i (C_uall ..) ?_)
    exact r_iret (pc := 27) C hQ dX8_way_27 rfl (fin_noC (by unfold q_way; first | rw [if_pos (by omega)] | rw [if_neg (by omega)]) (by omega) rfl)
  · refine r_aload_n (pc := 11) C 0 dX8_way_11 rfl rfl ?_
    refine r_get (pc := 12) C 0 0 0 dX8_way_12 in_X8 rfl rfl (ci := 8) rfl (by decide) tw_143 rfl rfl ?_
    refine r_iload_n (pc := 15) C 2 dX8_way_15 rfl rfl ?_
    refine r_callV (pc := 16) (is := [1]) C YX6_hasLoft dX8_way_16 tw_399 (c_X6_hasLoft l G _ _ _ (by first | assumption | omega | exact zand_rng _ _ | exact zor_rng _ _ | exact zxor_rng _ _ | exact BT.r (IT.b (by assumption)) _ _) (by first | assumption | omega | exact zand_rng _ _ | exact zor_rng _ _ | exact zxor_rng _ _ | exact BT.r (IT.b (by assumption)) _ _)) 1 0 rfl rfl (ci := 6) rfl rfl rfl (by decide) rfl rfl (Nat.le_of_ble_eq_true rfl) ⟨rfl, rfl, by decide, by decide⟩ (jst_i (C_u1 ..) ?_)
    refine r_ifb_ne (pc := 19) (tgt := 28) C dX8_way_19 (by decide) (fun c19 => ?_) (fun c19 => ?_)
    · refine r_aload_n (pc := 28) C 0 dX8_way_28 rfl rfl ?_
      refine r_get (pc := 29) C 0 0 0 dX8_way_29 in_X8 rfl rfl (ci := 8) rfl (by decide) tw_143 rfl rfl ?_
      refine r_iload_n (pc := 32) C 1 dX8_way_32 rfl rfl ?_
      refine r_iload_n (pc := 33) C 2 dX8_way_33 rfl rfl ?_
      refine r_callV (pc := 34) (is := [1]) C YX6_apart dX8_way_34 tw_590 (c_X6_apart l G _ _ _ _ (by first | assumption | omega | exact zand_rng _ _ | exact zor_rng _ _ | exact zxor_rng _ _ | exact BT.r (IT.b (by assumption)) _ _) (by first | assumption | omega | exact zand_rng _ _ | exact zor_rng _ _ | exact zxor_rng _ _ | exact BT.r (IT.b (by assumption)) _ _) (by first | assumption | omega | exact zand_rng _ _ | exact zor_rng _ _ | exact zxor_rng _ _ | exact BT.r (IT.b (by assumption)) _ _)) 1 0 rfl rfl (ci := 6) rfl rfl rfl (by decide) rfl rfl (Nat.le_of_ble_eq_true rfl) ⟨rfl, rfl, by decide, by decide⟩ (jst_i (C_u1 ..) ?_)
      exact r_iret (pc := 37) C hQ dX8_way_37 rfl (fin_okC (by unfold q_way; first | rw [if_pos (by omega)] | rw [if_neg (by omega)]) (by first | rfl | omega) (by rfl))
    · refine r_aload_n (pc := 22) C 0 dX8_way_22 rfl rfl ?_
      refine r_iconst (pc := 23) C dX8_way_23 ?_
      refine r_callV (pc := 24) (is := [0, 1, 2, 3, 4]) C YX8_refuse dX8_way_24 tw_185 (c_X8_refuse l G _ _ _ _ _ _ _ (by first | assumption | omega | exact zand_rng _ _ | exact zor_rng _ _ | exact zxor_rng _ _ | exact BT.r (IT.b (by assumption)) _ _)) 0 0 rfl rfl (ci := 8) rfl rfl rfl (by decide) rfl rfl (Nat.le_of_ble_eq_true rfl) ⟨rfl, rfl, by decide, by decide⟩ (jst_i (C_uall ..) ?_)
      exact r_iret (pc := 27) C hQ dX8_way_27 rfl (fin_noC (by unfold q_way; first | rw [if_pos (by omega)] | rw [if_neg (by omega)]) (by omega) rfl)

set_option maxRecDepth 100000 in
set_option maxHeartbeats 4000000 in
theorem c_X8_purse (l : Launch) (G : GT) (a : Nat → Nat) (X N M P S : Tn) (z m : Int) (hI : IT N) (hX : IX X S) (hk9 : N 0 4 ≤ 999) (gz : -2147483648 ≤ z ∧ z < 2147483648) (gm : -2147483648 ≤ m ∧ m < 2147483648) : Cn l yX8_purse cX8_purse 4 (Option.some .int) ({ frames := 6, cells := 0, slots := 0, locals := 141 }) G [.ref (a 0), .int (iI z), .int (iI m)] (wC G a X N M P S) (jst (some (.int (iI (zans (q_lo N z m 0 40) (sPur N z m))))) (wC G a (zif (q_lo N z m 0 40) (X) (xrf X (q_lo N z m 0 40))) (zif (q_lo N z m 0 40) (N) N) (zif (q_lo N z m 0 40) (sDusks N m) M) (zif (q_lo N z m 0 40) (P) P) (zif (q_lo N z m 0 40) (S) S))) := by
  refine Cn_in RX8 [some (.ref (a 0)), some (.int (iI z)), some (.int (iI m)), none] (by decide +kernel) rfl rfl rfl (Nat.le_of_ble_eq_true rfl) (fun K C hQ => ?_)
  obtain ⟨x1, s1, x3, s6, x8⟩ := hX
  have hBB := hI.b
  have hLL := hI.L
  have hDD := hI.D
  have hkk := hI.k
  refine r_aload_n (pc := 0) C 0 dX8_purse_0 rfl rfl ?_
  refine r_get (pc := 1) C 0 0 0 dX8_purse_1 in_X8 rfl rfl (ci := 8) rfl (by decide) tw_143 rfl rfl ?_
  refine r_iload_n (pc := 4) C 1 dX8_purse_4 rfl rfl ?_
  refine r_callV (pc := 5) (is := [1]) C YX6_hasLoft dX8_purse_5 tw_399 (c_X6_hasLoft l G _ _ _ (by first | assumption | omega | exact zand_rng _ _ | exact zor_rng _ _ | exact zxor_rng _ _ | exact BT.r (IT.b (by assumption)) _ _) (by first | assumption | omega | exact zand_rng _ _ | exact zor_rng _ _ | exact zxor_rng _ _ | exact BT.r (IT.b (by assumption)) _ _)) 1 0 rfl rfl (ci := 6) rfl rfl rfl (by decide) rfl rfl (Nat.le_of_ble_eq_true rfl) ⟨rfl, rfl, by decide, by decide⟩ (jst_i (C_u1 ..) ?_)
  refine r_ifb_eq (pc := 8) (tgt := 21) C dX8_purse_8 (by decide) (fun c8 => ?_) (fun c8 => ?_)
  · refine r_iconst (pc := 21) C dX8_purse_21 ?_
    refine r_istore_n (pc := 22) C 3 dX8_purse_22 rfl (Nat.le_of_ble_eq_true rfl) ?_
    refine r_iload_n (pc := 23) C 3 dX8_purse_23 rfl rfl ?_
    refine r_if_eq (pc := 24) (tgt := 33) C dX8_purse_24 (by decide) (by first | omega | exact zand_rng _ _ | exact zor_rng _ _ | exact zxor_rng _ _ | exact BT.r (IT.b (by assumption)) _ _) (fun c24 => absurd c24 (by omega)) (fun c24 => ?_)
    refine r_aload_n (pc := 27) C 0 dX8_purse_27 rfl rfl ?_
    refine r_iload_n (pc := 28) C 3 dX8_purse_28 rfl rfl ?_
    refine r_callV (pc := 29) (is := [0, 1, 2, 3, 4]) C YX8_refuse dX8_purse_29 tw_185 (c_X8_refuse l G _ _ _ _ _ _ _ (by first | assumption | omega | exact zand_rng _ _ | exact zor_rng _ _ | exact zxor_rng _ _ | exact BT.r (IT.b (by assumption)) _ _)) 0 0 rfl rfl (ci := 8) rfl rfl rfl (by decide) rfl rfl (Nat.le_of_ble_eq_true rfl) ⟨rfl, rfl, by decide, by decide⟩ (jst_i (C_uall ..) ?_)
    exact r_iret (pc := 32) C hQ dX8_purse_32 rfl (fin_noC (by unfold q_lo; (repeat (first | rw [if_pos (by omega)] | rw [if_neg (by omega)])); (try first | rfl | assumption | omega)) (by omega) rfl)
  · refine r_iload_n (pc := 11) C 2 dX8_purse_11 rfl rfl ?_
    refine r_iconst (pc := 12) C dX8_purse_12 ?_
    refine r_bipush (pc := 13) C dX8_purse_13 (by decide) ?_
    refine r_callS (pc := 15) (is := []) C YX8_outside dX8_purse_15 tw_178 (c_X8_outside l G _ _ _ (by first | assumption | omega | exact zand_rng _ _ | exact zor_rng _ _ | exact zxor_rng _ _ | exact BT.r (IT.b (by assumption)) _ _) (by first | assumption | omega | exact zand_rng _ _ | exact zor_rng _ _ | exact zxor_rng _ _ | exact BT.r (IT.b (by assumption)) _ _) (by first | assumption | omega | exact zand_rng _ _ | exact zor_rng _ _ | exact zxor_rng _ _ | exact BT.r (IT.b (by assumption)) _ _)) rfl (by decide) rfl rfl (Nat.le_of_ble_eq_true rfl) ⟨rfl, rfl, by decide, by decide⟩ (jst_i (ups_nil _) ?_)
    have hs15 := sOut_r m 0 40 (by decide)
    refine r_goto (pc := 18) (tgt := 22) C dX8_purse_18 (by decide) ?_
    refine r_istore_n (pc := 22) C 3 dX8_purse_22 rfl (Nat.le_of_ble_eq_true rfl) ?_
    refine r_iload_n (pc := 23) C 3 dX8_purse_23 rfl rfl ?_
    refine r_if_eq (pc := 24) (tgt := 33) C dX8_purse_24 (by decide) (by first | omega | exact zand_rng _ _ | exact zor_rng _ _ | exact zxor_rng _ _ | exact BT.r (IT.b (by assumption)) _ _) (fun c24 => ?_) (fun c24 => ?_)
    · refine r_aload_n (pc := 33) C 0 dX8_purse_33 rfl rfl ?_
      refine r_get (pc := 34) C 0 0 1 dX8_purse_34 in_X8 rfl rfl (ci := 8) rfl (by decide) tw_144 rfl rfl ?_
      refine r_aload_n (pc := 37) C 0 dX8_purse_37 rfl rfl ?_
      refine r_get (pc := 38) C 0 0 0 dX8_purse_38 in_X8 rfl rfl (ci := 8) rfl (by decide) tw_143 rfl rfl ?_
      refine r_callV (pc := 41) (is := [2, 1]) C YX6_become dX8_purse_41 tw_343 (c_X6_become l G _ _ _ _) 2 0 rfl rfl (ci := 6) rfl rfl rfl (by decide) rfl rfl (Nat.le_of_ble_eq_true rfl) ⟨rfl, rfl, by decide, by decide⟩ (jst_v (C_u2_1 ..) ?_)
      refine r_aload_n (pc := 44) C 0 dX8_purse_44 rfl rfl ?_
      refine r_get (pc := 45) C 0 0 1 dX8_purse_45 in_X8 rfl rfl (ci := 8) rfl (by decide) tw_144 rfl rfl ?_
      refine r_iload_n (pc := 48) C 2 dX8_purse_48 rfl rfl ?_
      refine r_callV (pc := 49) (is := [2]) C YX6_passDusks dX8_purse_49 tw_595 (c_X6_passDusks l G _ _ _ (by first | assumption | omega | exact zand_rng _ _ | exact zor_rng _ _ | exact zxor_rng _ _ | exact BT.r (IT.b (by assumption)) _ _) (by first | assumption | omega | exact zand_rng _ _ | exact zor_rng _ _ | exact zxor_rng _ _ | exact BT.r (IT.b (by assumption)) _ _) (by first | assumption | omega | exact zand_rng _ _ | exact zor_rng _ _ | exact zxor_rng _ _ | exact BT.r (IT.b (by assumption)) _ _) (by first | assumption | omega | exact zand_rng _ _ | exact zor_rng _ _ | exact zxor_rng _ _ | exact BT.r (IT.b (by assumption)) _ _)) 2 0 rfl rfl (ci := 6) rfl rfl rfl (by decide) rfl rfl (Nat.le_of_ble_eq_true rfl) ⟨rfl, rfl, by decide, by decide⟩ (jst_i (C_u2 ..) ?_)
      obtain ⟨hI2, -⟩ := sDusks_p hI (n := m) (by omega) (by omega)
      refine r_pop (pc := 52) C dX8_purse_52 rfl ?_
      refine r_aload_n (pc := 53) C 0 dX8_purse_53 rfl rfl ?_
      refine r_get (pc := 54) C 0 0 1 dX8_purse_54 in_X8 rfl rfl (ci := 8) rfl (by decide) tw_144 rfl rfl ?_
      refine r_iload_n (pc := 57) C 1 dX8_purse_57 rfl rfl ?_
      refine r_callV (pc := 58) (is := [2]) C YX6_purseOf dX8_purse_58 tw_407 (c_X6_purseOf l G _ _ _ (by first | assumption | omega | exact zand_rng _ _ | exact zor_rng _ _ | exact zxor_rng _ _ | exact BT.r (IT.b (by assumption)) _ _) (by first | assumption | omega | exact zand_rng _ _ | exact zor_rng _ _ | exact zxor_rng _ _ | exact BT.r (IT.b (by assumption)) _ _)) 2 0 rfl rfl (ci := 6) rfl rfl rfl (by decide) rfl rfl (Nat.le_of_ble_eq_true rfl) ⟨rfl, rfl, by decide, by decide⟩ (jst_i (C_u2 ..) ?_)
      exact r_iret (pc := 61) C hQ dX8_purse_61 rfl (fin_okC (by unfold q_lo; (repeat (first | rw [if_pos (by omega)] | rw [if_neg (by omega)])); (try first | rfl | assumption | omega)) (by first | rfl | omega) (by rfl))
    · refine r_aload_n (pc := 27) C 0 dX8_purse_27 rfl rfl ?_
      refine r_iload_n (pc := 28) C 3 dX8_purse_28 rfl rfl ?_
      refine r_callV (pc := 29) (is := [0, 1, 2, 3, 4]) C YX8_refuse dX8_purse_29 tw_185 (c_X8_refuse l G _ _ _ _ _ _ _ (by first | assumption | omega | exact zand_rng _ _ | exact zor_rng _ _ | exact zxor_rng _ _ | exact BT.r (IT.b (by assumption)) _ _)) 0 0 rfl rfl (ci := 8) rfl rfl rfl (by decide) rfl rfl (Nat.le_of_ble_eq_true rfl) ⟨rfl, rfl, by decide, by decide⟩ (jst_i (C_uall ..) ?_)
      exact r_iret (pc := 32) C hQ dX8_purse_32 rfl (fin_noC (by unfold q_lo; (repeat (first | rw [if_pos (by omega)] | rw [if_neg (by omega)])); (try first | rfl | assumption | omega)) (by omega) rfl)

set_option maxRecDepth 100000 in
set_option maxHeartbeats 4000000 in
theorem c_X8_row (l : Launch) (G : GT) (a : Nat → Nat) (X N M P S : Tn) (v : Int) (hI : IT N) (hX : IX X S) (gv : -2147483648 ≤ v ∧ v < 2147483648) : Cn l yX8_row cX8_row 3 (Option.some .int) ({ frames := 1, cells := 0, slots := 0, locals := 22 }) G [.ref (a 0), .int (iI v)] (wC G a X N M P S) (jst (some (.int (iI (zans (q_row v (X 0 0)) (X 0 0 + 1))))) (wC G a (zif (q_row v (X 0 0)) (up (up X 1 (X 0 0) v) 0 0 (X 0 0 + 1)) (xrf X (q_row v (X 0 0)))) (zif (q_row v (X 0 0)) (N) N) (zif (q_row v (X 0 0)) (M) M) (zif (q_row v (X 0 0)) (P) P) (zif (q_row v (X 0 0)) (S) S))) := by
  refine Cn_in RX8 [some (.ref (a 0)), some (.int (iI v)), none] (by decide +kernel) rfl rfl rfl (Nat.le_of_ble_eq_true rfl) (fun K C hQ => ?_)
  obtain ⟨x1, s1, x3, s6, x8⟩ := hX
  have hBB := hI.b
  have hLL := hI.L
  have hDD := hI.D
  have hkk := hI.k
  refine r_iload_n (pc := 0) C 1 dX8_row_0 rfl rfl ?_
  refine r_iconst (pc := 1) C dX8_row_1 ?_
  refine r_bipush (pc := 2) C dX8_row_2 (by decide) ?_
  refine r_callS (pc := 4) (is := []) C YX8_outside dX8_row_4 tw_178 (c_X8_outside l G _ _ _ (by first | assumption | omega | exact zand_rng _ _ | exact zor_rng _ _ | exact zxor_rng _ _ | exact BT.r (IT.b (by assumption)) _ _) (by first | assumption | omega | exact zand_rng _ _ | exact zor_rng _ _ | exact zxor_rng _ _ | exact BT.r (IT.b (by assumption)) _ _) (by first | assumption | omega | exact zand_rng _ _ | exact zor_rng _ _ | exact zxor_rng _ _ | exact BT.r (IT.b (by assumption)) _ _)) rfl (by decide) rfl rfl (Nat.le_of_ble_eq_true rfl) ⟨rfl, rfl, by decide, by decide⟩ (jst_i (ups_nil _) ?_)
  have hs4 := sOut_r v 0 9 (by decide)
  refine r_istore_n (pc := 7) C 2 dX8_row_7 rfl (Nat.le_of_ble_eq_true rfl) ?_
  refine r_iload_n (pc := 8) C 2 dX8_row_8 rfl rfl ?_
  refine r_if_ne (pc := 9) (tgt := 24) C dX8_row_9 (by decide) (by first | omega | exact zand_rng _ _ | exact zor_rng _ _ | exact zxor_rng _ _ | exact BT.r (IT.b (by assumption)) _ _) (fun c9 => ?_) (fun c9 => ?_)
  · refine r_iload_n (pc := 24) C 2 dX8_row_24 rfl rfl ?_
    refine r_if_eq (pc := 25) (tgt := 34) C dX8_row_25 (by decide) (by first | omega | exact zand_rng _ _ | exact zor_rng _ _ | exact zxor_rng _ _ | exact BT.r (IT.b (by assumption)) _ _) (fun c25 => ?_) (fun c25 => ?_)
    · refine r_aload_n (pc := 34) C 0 dX8_row_34 rfl rfl ?_
      refine r_get (pc := 35) C 0 0 4 dX8_row_35 in_X8 rfl rfl (ci := 8) rfl (by decide) tw_147 rfl rfl ?_
      refine r_aload_n (pc := 38) C 0 dX8_row_38 rfl rfl ?_
      refine r_get (pc := 39) C 0 0 8 dX8_row_39 in_X8 rfl rfl (ci := 8) rfl (by decide) tw_151 rfl rfl ?_
      refine r_iload_n (pc := 42) C 1 dX8_row_42 rfl rfl ?_
      refine r_iastore (pc := 43) C 0 1 dX8_row_43 rfl rfl (by decide) (by omega) rfl (C_a0_1 ..) ?_
      refine r_aload_n (pc := 44) C 0 dX8_row_44 rfl rfl ?_
      refine r_dup (pc := 45) C dX8_row_45 rfl ?_
      refine r_get (pc := 46) C 0 0 8 dX8_row_46 in_X8 rfl rfl (ci := 8) rfl (by decide) tw_151 rfl rfl ?_
      refine r_iconst (pc := 49) C dX8_row_49 ?_
      refine r_iadd (pc := 50) C dX8_row_50 ?_
      refine r_put (pc := 51) C 0 0 8 dX8_row_51 in_X8 tyX8_ok nmX8 rfl rfl (ci := 8) rfl (by decide) tw_151 rfl rfl (tyX8_ok 8 (by decide)) rfl rfl (Nat.le_of_ble_eq_true rfl) rfl (C_p0_8 ..) ?_
      refine r_aload_n (pc := 54) C 0 dX8_row_54 rfl rfl ?_
      refine r_get (pc := 55) C 0 0 8 dX8_row_55 in_X8 rfl rfl (ci := 8) rfl (by decide) tw_151 rfl rfl ?_
      exact r_iret (pc := 58) C hQ dX8_row_58 rfl (fin_okC (by unfold q_row; (repeat (first | rw [if_pos (by omega)] | rw [if_neg (by omega)])); (try first | rfl | assumption | omega)) (by first | rfl | omega) (by rfl))
    · refine r_aload_n (pc := 28) C 0 dX8_row_28 rfl rfl ?_
      refine r_iload_n (pc := 29) C 2 dX8_row_29 rfl rfl ?_
      refine r_callV (pc := 30) (is := [0, 1, 2, 3, 4]) C YX8_refuse dX8_row_30 tw_185 (c_X8_refuse l G _ _ _ _ _ _ _ (by first | assumption | omega | exact zand_rng _ _ | exact zor_rng _ _ | exact zxor_rng _ _ | exact BT.r (IT.b (by assumption)) _ _)) 0 0 rfl rfl (ci := 8) rfl rfl rfl (by decide) rfl rfl (Nat.le_of_ble_eq_true rfl) ⟨rfl, rfl, by decide, by decide⟩ (jst_i (C_uall ..) ?_)
      exact r_iret (pc := 33) C hQ dX8_row_33 rfl (fin_noC (by unfold q_row; (repeat (first | rw [if_pos (by omega)] | rw [if_neg (by omega)])); (try first | rfl | assumption | omega)) (by omega) rfl)
  · refine r_aload_n (pc := 12) C 0 dX8_row_12 rfl rfl ?_
    refine r_get (pc := 13) C 0 0 8 dX8_row_13 in_X8 rfl rfl (ci := 8) rfl (by decide) tw_151 rfl rfl ?_
    refine r_bipush (pc := 16) C dX8_row_16 (by decide) ?_
    refine r_icmp_lt (pc := 18) (tgt := 24) C dX8_row_18 (by decide) (by first | omega | exact zand_rng _ _ | exact zor_rng _ _ | exact zxor_rng _ _ | exact BT.r (IT.b (by assumption)) _ _) (by first | omega | exact zand_rng _ _ | exact zor_rng _ _ | exact zxor_rng _ _ | exact BT.r (IT.b (by assumption)) _ _) (fun c18 => ?_) (fun c18 => ?_)
    · refine r_iload_n (pc := 24) C 2 dX8_row_24 rfl rfl ?_
      refine r_if_eq (pc := 25) (tgt := 34) C dX8_row_25 (by decide) (by first | omega | exact zand_rng _ _ | exact zor_rng _ _ | exact zxor_rng _ _ | exact BT.r (IT.b (by assumption)) _ _) (fun c25 => ?_) (fun c25 => ?_)
      · refine r_aload_n (pc := 34) C 0 dX8_row_34 rfl rfl ?_
        refine r_get (pc := 35) C 0 0 4 dX8_row_35 in_X8 rfl rfl (ci := 8) rfl (by decide) tw_147 rfl rfl ?_
        refine r_aload_n (pc := 38) C 0 dX8_row_38 rfl rfl ?_
        refine r_get (pc := 39) C 0 0 8 dX8_row_39 in_X8 rfl rfl (ci := 8) rfl (by decide) tw_151 rfl rfl ?_
        refine r_iload_n (pc := 42) C 1 dX8_row_42 rfl rfl ?_
        refine r_iastore (pc := 43) C 0 1 dX8_row_43 rfl rfl (by decide) (by omega) rfl (C_a0_1 ..) ?_
        refine r_aload_n (pc := 44) C 0 dX8_row_44 rfl rfl ?_
        refine r_dup (pc := 45) C dX8_row_45 rfl ?_
        refine r_get (pc := 46) C 0 0 8 dX8_row_46 in_X8 rfl rfl (ci := 8) rfl (by decide) tw_151 rfl rfl ?_
        refine r_iconst (pc := 49) C dX8_row_49 ?_
        refine r_iadd (pc := 50) C dX8_row_50 ?_
        refine r_put (pc := 51) C 0 0 8 dX8_row_51 in_X8 tyX8_ok nmX8 rfl rfl (ci := 8) rfl (by decide) tw_151 rfl rfl (tyX8_ok 8 (by decide)) rfl rfl (Nat.le_of_ble_eq_true rfl) rfl (C_p0_8 ..) ?_
        refine r_aload_n (pc := 54) C 0 dX8_row_54 rfl rfl ?_
        refine r_get (pc := 55) C 0 0 8 dX8_row_55 in_X8 rfl rfl (ci := 8) rfl (by decide) tw_151 rfl rfl ?_
        exact r_iret (pc := 58) C hQ dX8_row_58 rfl (fin_okC (by unfold q_row; (repeat (first | rw [if_pos (by omega)] | rw [if_neg (by omega)])); (try first | rfl | assumption | omega)) (by first | rfl | omega) (by rfl))
      · refine r_aload_n (pc := 28) C 0 dX8_row_28 rfl rfl ?_
        refine r_iload_n (pc := 29) C 2 dX8_row_29 rfl rfl ?_
        refine r_callV (pc := 30) (is := [0, 1, 2, 3, 4]) C YX8_refuse dX8_row_30 tw_185 (c_X8_refuse l G _ _ _ _ _ _ _ (by first | assumption | omega | exact zand_rng _ _ | exact zor_rng _ _ | exact zxor_rng _ _ | exact BT.r (IT.b (by assumption)) _ _)) 0 0 rfl rfl (ci := 8) rfl rfl rfl (by decide) rfl rfl (Nat.le_of_ble_eq_true rfl) ⟨rfl, rfl, by decide, by decide⟩ (jst_i (C_uall ..) ?_)
        exact r_iret (pc := 33) C hQ dX8_row_33 rfl (fin_noC (by unfold q_row; (repeat (first | rw [if_pos (by omega)] | rw [if_neg (by omega)])); (try first | rfl | assumption | omega)) (by omega) rfl)
    · refine r_bipush (pc := 21) C dX8_row_21 (by decide) ?_
      refine r_istore_n (pc := 23) C 2 dX8_row_23 rfl (Nat.le_of_ble_eq_true rfl) ?_
      refine r_iload_n (pc := 24) C 2 dX8_row_24 rfl rfl ?_
      refine r_if_eq (pc := 25) (tgt := 34) C dX8_row_25 (by decide) (by first | omega | exact zand_rng _ _ | exact zor_rng _ _ | exact zxor_rng _ _ | exact BT.r (IT.b (by assumption)) _ _) (fun c25 => absurd c25 (by omega)) (fun c25 => ?_)
      refine r_aload_n (pc := 28) C 0 dX8_row_28 rfl rfl ?_
      refine r_iload_n (pc := 29) C 2 dX8_row_29 rfl rfl ?_
      refine r_callV (pc := 30) (is := [0, 1, 2, 3, 4]) C YX8_refuse dX8_row_30 tw_185 (c_X8_refuse l G _ _ _ _ _ _ _ (by first | assumption | omega | exact zand_rng _ _ | exact zor_rng _ _ | exact zxor_rng _ _ | exact BT.r (IT.b (by assumption)) _ _)) 0 0 rfl rfl (ci := 8) rfl rfl rfl (by decide) rfl rfl (Nat.le_of_ble_eq_true rfl) ⟨rfl, rfl, by decide, by decide⟩ (jst_i (C_uall ..) ?_)
      exact r_iret (pc := 33) C hQ dX8_row_33 rfl (fin_noC (by unfold q_row; (repeat (first | rw [if_pos (by omega)] | rw [if_neg (by omega)])); (try first | rfl | assumption | omega)) (by omega) rfl)

set_option maxRecDepth 100000 in
set_option maxHeartbeats 4000000 in
theorem c_X8_on (l : Launch) (G : GT) (a : Nat → Nat) (X N M P S : Tn) (hI : IT N) (hX : IX X S) : Cn l yX8_on cX8_on 1 (Option.some .int) ({ frames := 2, cells := 0, slots := 0, locals := 140 }) G [.ref (a 0)] (wC G a X N M P S) (jst (some (.int (iI (zans ((if X 0 1 = 0 then -3 else 0)) (P 0 4))))) (wC G a (zif ((if X 0 1 = 0 then -3 else 0)) (X) (xrf X ((if X 0 1 = 0 then -3 else 0)))) (zif ((if X 0 1 = 0 then -3 else 0)) (P) N) (zif ((if X 0 1 = 0 then -3 else 0)) (M) M) (zif ((if X 0 1 = 0 then -3 else 0)) (P) P) (zif ((if X 0 1 = 0 then -3 else 0)) (S) S))) := by
  refine Cn_in RX8 [some (.ref (a 0))] (by decide +kernel) rfl rfl rfl (Nat.le_of_ble_eq_true rfl) (fun K C hQ => ?_)
  obtain ⟨x1, s1, x3, s6, x8⟩ := hX
  have hBB := hI.b
  have hLL := hI.L
  have hDD := hI.D
  have hkk := hI.k
  refine r_aload_n (pc := 0) C 0 dX8_on_0 rfl rfl ?_
  refine r_get (pc := 1) C 0 0 9 dX8_on_1 in_X8 rfl rfl (ci := 8) rfl (by decide) tw_152 rfl rfl ?_
  refine r_if_ne (pc := 4) (tgt := 14) C dX8_on_4 (by decide) (by first | omega | exact zand_rng _ _ | exact zor_rng _ _ | exact zxor_rng _ _ | exact BT.r (IT.b (by assumption)) _ _) (fun c4 => ?_) (fun c4 => ?_)
  · refine r_aload_n (pc := 14) C 0 dX8_on_14 rfl rfl ?_
    refine r_get (pc := 15) C 0 0 0 dX8_on_15 in_X8 rfl rfl (ci := 8) rfl (by decide) tw_143 rfl rfl ?_
    refine r_aload_n (pc := 18) C 0 dX8_on_18 rfl rfl ?_
    refine r_get (pc := 19) C 0 0 2 dX8_on_19 in_X8 rfl rfl (ci := 8) rfl (by decide) tw_145 rfl rfl ?_
    refine r_callV (pc := 22) (is := [1, 3]) C YX6_become dX8_on_22 tw_343 (c_X6_become l G _ _ _ _) 1 0 rfl rfl (ci := 6) rfl rfl rfl (by decide) rfl rfl (Nat.le_of_ble_eq_true rfl) ⟨rfl, rfl, by decide, by decide⟩ (jst_v (C_u1_3 ..) ?_)
    refine r_aload_n (pc := 25) C 0 dX8_on_25 rfl rfl ?_
    refine r_get (pc := 26) C 0 0 0 dX8_on_26 in_X8 rfl rfl (ci := 8) rfl (by decide) tw_143 rfl rfl ?_
    refine r_get (pc := 29) C 1 0 12 dX8_on_29 in_X6 rfl rfl (ci := 6) rfl (by decide) tw_100 rfl rfl ?_
    exact r_iret (pc := 32) C hQ dX8_on_32 rfl (fin_okC (by first | rw [if_pos (by omega)] | rw [if_neg (by omega)]) (by first | rfl | omega) (by rfl))
  · refine r_aload_n (pc := 7) C 0 dX8_on_7 rfl rfl ?_
    refine r_bipush (pc := 8) C dX8_on_8 (by decide) ?_
    refine r_callV (pc := 10) (is := [0, 1, 2, 3, 4]) C YX8_refuse dX8_on_10 tw_185 (c_X8_refuse l G _ _ _ _ _ _ _ (by first | assumption | omega | exact zand_rng _ _ | exact zor_rng _ _ | exact zxor_rng _ _ | exact BT.r (IT.b (by assumption)) _ _)) 0 0 rfl rfl (ci := 8) rfl rfl rfl (by decide) rfl rfl (Nat.le_of_ble_eq_true rfl) ⟨rfl, rfl, by decide, by decide⟩ (jst_i (C_uall ..) ?_)
    exact r_iret (pc := 13) C hQ dX8_on_13 rfl (fin_noC (by first | rw [if_pos (by omega)] | rw [if_neg (by omega)]) (by omega) rfl)

set_option maxRecDepth 100000 in
set_option maxHeartbeats 4000000 in
theorem c_X8_image (l : Launch) (G : GT) (a : Nat → Nat) (X N M P S : Tn) (hI : IT N) (hX : IX X S) : Cn l yX8_image cX8_image 1 (Option.some .int) ({ frames := 2, cells := 0, slots := 0, locals := 140 }) G [.ref (a 0)] (wC G a X N M P S) (jst (some (.int (iI (N 0 4)))) (wC G a (up X 0 1 1) N M N S)) := by
  refine Cn_in RX8 [some (.ref (a 0))] (by decide +kernel) rfl rfl rfl (Nat.le_of_ble_eq_true rfl) (fun K C hQ => ?_)
  obtain ⟨x1, s1, x3, s6, x8⟩ := hX
  have hBB := hI.b
  have hLL := hI.L
  have hDD := hI.D
  have hkk := hI.k
  refine r_aload_n (pc := 0) C 0 dX8_image_0 rfl rfl ?_
  refine r_get (pc := 1) C 0 0 2 dX8_image_1 in_X8 rfl rfl (ci := 8) rfl (by decide) tw_145 rfl rfl ?_
  refine r_aload_n (pc := 4) C 0 dX8_image_4 rfl rfl ?_
  refine r_get (pc := 5) C 0 0 0 dX8_image_5 in_X8 rfl rfl (ci := 8) rfl (by decide) tw_143 rfl rfl ?_
  refine r_callV (pc := 8) (is := [3, 1]) C YX6_become dX8_image_8 tw_343 (c_X6_become l G _ _ _ _) 3 0 rfl rfl (ci := 6) rfl rfl rfl (by decide) rfl rfl (Nat.le_of_ble_eq_true rfl) ⟨rfl, rfl, by decide, by decide⟩ (jst_v (C_u3_1 ..) ?_)
  refine r_aload_n (pc := 11) C 0 dX8_image_11 rfl rfl ?_
  refine r_iconst (pc := 12) C dX8_image_12 ?_
  refine r_put (pc := 13) C 0 0 9 dX8_image_13 in_X8 tyX8_ok nmX8 rfl rfl (ci := 8) rfl (by decide) tw_152 rfl rfl (tyX8_ok 9 (by decide)) rfl rfl (Nat.le_of_ble_eq_true rfl) rfl (C_p0_9 ..) ?_
  refine r_aload_n (pc := 16) C 0 dX8_image_16 rfl rfl ?_
  refine r_get (pc := 17) C 0 0 0 dX8_image_17 in_X8 rfl rfl (ci := 8) rfl (by decide) tw_143 rfl rfl ?_
  refine r_get (pc := 20) C 1 0 12 dX8_image_20 in_X6 rfl rfl (ci := 6) rfl (by decide) tw_100 rfl rfl ?_
  exact r_iret (pc := 23) C hQ dX8_image_23 rfl (jst_ri (by first | rfl | omega) rfl)

