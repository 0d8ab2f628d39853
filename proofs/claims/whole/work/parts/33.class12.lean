theorem v_stay_in {T : Tn} (h : IT T) {s m q n : Int} (hs : 0 ≤ s ∧ s < zp2 (T 0 1)) (hq : 0 ≤ q ∧ q < T 0 0) (hn : 0 ≤ n) (hk : T 0 4 + n ≤ 1100) (hsm : ∀ d, 0 ≤ d → d < T 0 1 → zbit s d = 1 → zbit m d = 1) {F : Int → Int} (hF : ∀ j, 0 ≤ j → j < T 0 1 → F j = if sStayU T m q n 6 j = q then sVal (sStayU T m q n) j else 0) : sGs F s (T 0 1) = v_stay T s q n := by
  have hD := h.D
  rw [← v_stay_is h hs hq hn hk (F := fun j => if sStayU T s q n 6 j = q then sVal (sStayU T s q n) j else 0) (fun j _ _ => rfl)]
  unfold sGs
  refine sSum_cg (fun j h0 h1 => ?_)
  by_cases e : zbit s j = 1
  · rw [if_pos e, if_pos e, hF j h0 h1]
    obtain ⟨a1, a2⟩ := sPutS_p h s hq hD.1
    obtain ⟨b1, b2⟩ := sPutS_p h m hq hD.1
    have a6 := sPutS_d T s q h0 (T 0 1).toNat
    have b6 := sPutS_d T m q h0 (T 0 1).toNat
    rw [show ((T 0 1).toNat : Int) = T 0 1 by omega] at a6 b6
    rw [if_pos ⟨h1, e⟩] at a6
    rw [if_pos ⟨h1, hsm j h0 h1 e⟩] at b6
    have hz : sSd (sPutS T m q (T 0 1)) (sPutS T s q (T 0 1)) j := by
      refine ⟨⟨?_, ?_, ?_, ?_⟩, ⟨?_, ?_⟩, ?_, ?_, ?_, by rw [a6, b6], ?_⟩
      all_goals rw [a2 _ (by decide), b2 _ (by decide)]
    have e1 : sPutS T m q (T 0 1) 0 = T 0 := b2 0 (by decide)
    have e2 : sPutS T s q (T 0 1) 0 = T 0 := a2 0 (by decide)
    have hx := sSd_dusks b1 a1 (d := j) ⟨h0, by rw [e1]; exact h1⟩ ⟨h0, by rw [e2]; exact h1⟩ hz n.toNat (by rw [e1]; omega)
    rw [show (n.toNat : Int) = n by omega] at hx
    have hx : sSd (sStayU T m q n) (sStayU T s q n) j := hx
    obtain ⟨-, -, c3, -, c5, c6, -⟩ := hx
    rw [c6, sVal_cg c3 c5]
  · rw [if_neg e, if_neg e]
set_option maxRecDepth 100000 in
set_option maxHeartbeats 4000000 in
theorem c_X8_cheapestSet (l : Launch) (G : GT) (a : Nat → Nat) (X N M P S : Tn) (f t m k : Int) (hI : IT N) (hk9 : N 0 4 ≤ 999) (ht : 0 ≤ t ∧ t < N 0 0) (hm9 : 0 ≤ m ∧ m ≤ 999) (hk40 : 0 ≤ k ∧ k ≤ 40) (hG : ∀ s, 0 ≤ s → s < zp2 (N 0 1) → sAllIn N s f → sGs (X 3) s (N 0 1) = v_stay N s t k) : Cn l yX8_cheapestSet cX8_cheapestSet 7 (Option.some .int) ({ frames := 5, cells := 0, slots := 0, locals := 107 }) G [.ref (a 0), .int (iI (sMask (fun d => N 6 d = f) (N 0 1))), .int (iI m)] (wC G a X N M P S) (jst (some (.int (iI ((sCheap N f t m k (zp2 (N 0 1))).1)))) (wC G a X N M P S)) := by
  refine Cn_in RX8 [some (.ref (a 0)), some (.int (iI (sMask (fun d => N 6 d = f) (N 0 1)))), some (.int (iI m)), none, none, none, none] (by decide +kernel) rfl rfl rfl (Nat.le_of_ble_eq_true rfl) (fun K C hQ => ?_)
  have hBB := hI.b
  have hLL := hI.L
  have hDD := hI.D
  have hkk := hI.k
  have hzp := zp2_r (L := N 0 1) (by omega)
  refine r_bipush (pc := 0) C dX8_cheapestSet_0 (by decide) ?_
  refine r_istore_n (pc := 2) C 3 dX8_cheapestSet_2 rfl (Nat.le_of_ble_eq_true rfl) ?_
  refine r_iconst (pc := 3) C dX8_cheapestSet_3 ?_
  refine r_istore (pc := 4) C dX8_cheapestSet_4 (Nat.le_of_ble_eq_true rfl) ?_
  refine r_iconst (pc := 6) C dX8_cheapestSet_6 ?_
  refine r_istore (pc := 7) C dX8_cheapestSet_7 (Nat.le_of_ble_eq_true rfl) ?_
  have L9 : ∀ (n : Nat) (i : Int), 0 ≤ i → i ≤ zp2 (N 0 1) → zp2 (N 0 1) < i + n → Wc K G 9 [some (.ref (a 0)), some (.int (iI (sMask (fun d => N 6 d = f) (N 0 1)))), some (.int (iI m)), some (.int (iI (sCheap N f t m k i).1)), some (.int (iI (sCheap N f t m k i).2)), some (.int (iI i)), none] [] (wC G a X N M P S) := by
    intro n
    induction n with
    | zero =>
      intro i h0 h1 hn; omega
    | succ n ih =>
      intro i h0 h1 hn 
      have hch := sCheap_r hI f t m k h0
      have hww := sWorth_r hI i hDD.1 (Int.le_refl _)
      have hz1 := zc_r (sAllIn N i f)
      have hpi := zand_in hDD (fun d => N 6 d = f) (s := i) (by omega)
      have hvs := sStayV_r (sStayU_p hI i (q := t) (n := k) ht hk40.1 (by omega)).1 i t (sStayU_p hI i (q := t) (n := k) ht hk40.1 (by omega)).1.D.1 (Int.le_refl _)
      have hvq : v_stay N i t k = sStayV (sStayU N i t k) i t (sStayU N i t k 0 1) := rfl
      refine r_iload (pc := 9) C dX8_cheapestSet_9 rfl ?_
      refine r_iconst (pc := 11) C dX8_cheapestSet_11 ?_
      refine r_aload_n (pc := 12) C 0 dX8_cheapestSet_12 rfl rfl ?_
      refine r_get (pc := 13) C 0 0 0 dX8_cheapestSet_13 in_X8 rfl rfl (ci := 8) rfl (by decide) tw_143 rfl rfl ?_
      refine r_get (pc := 16) C 1 0 9 dX8_cheapestSet_16 in_X6 rfl rfl (ci := 6) rfl (by decide) tw_94 rfl rfl ?_
      refine r_ishl (pc := 19) C dX8_cheapestSet_19 (by omega) ?_
      refine r_icmp_ge (pc := 20) (tgt := 79) C dX8_cheapestSet_20 (by decide) (by first | omega | exact zand_rng _ _ | exact zor_rng _ _ | exact zxor_rng _ _ | exact BT.r (IT.b (by assumption)) _ _) (by first | omega | exact zand_rng _ _ | exact zor_rng _ _ | exact zxor_rng _ _ | exact BT.r (IT.b (by assumption)) _ _) (fun c20 => ?_) (fun c20 => ?_)
      · obtain rfl : i = zp2 (N 0 1) := by omega
        refine r_iload_n (pc := 79) C 3 dX8_cheapestSet_79 rfl rfl ?_
        exact r_iret (pc := 80) C hQ dX8_cheapestSet_80 rfl (jst_ri (by rfl) rfl)
      · refine r_iload (pc := 23) C dX8_cheapestSet_23 rfl ?_
        refine r_iload_n (pc := 25) C 1 dX8_cheapestSet_25 rfl rfl ?_
        refine r_iconst (pc := 26) C dX8_cheapestSet_26 ?_
        refine r_ixor (pc := 27) C dX8_cheapestSet_27 ?_
        refine r_iand (pc := 28) C dX8_cheapestSet_28 ?_
        refine r_if_ne (pc := 29) (tgt := 73) C dX8_cheapestSet_29 (by decide) (by first | omega | exact zand_rng _ _ | exact zor_rng _ _ | exact zxor_rng _ _ | exact BT.r (IT.b (by assumption)) _ _) (fun c29 => ?_) (fun c29 => ?_)
        · have hz2 : zc (sAllIn N i f) = 0 := zc_f (fun z => c29 (hpi.mpr ⟨h0, by omega, z⟩))
          refine r_iinc (pc := 73) C dX8_cheapestSet_73 rfl ?_
          refine r_goto (pc := 76) (tgt := 9) C dX8_cheapestSet_76 (by decide) ?_
          refine Wc.to (ih (i + 1) (by omega) (by omega) (by omega) ) rfl (lsub_s (by first | rfl | (rw [sCheap_s N f t m k h0]; first | (rw [if_pos (by omega)]; done) | (rw [if_neg (by omega)]; done) | (rw [if_pos (by omega)]; rfl) | (rw [if_neg (by omega)]; rfl))) (lsub_s (by first | rfl | (rw [sCheap_s N f t m k h0]; first | (rw [if_pos (by omega)]; done) | (rw [if_neg (by omega)]; done) | (rw [if_pos (by omega)]; rfl) | (rw [if_neg (by omega)]; rfl))) (lsub_s (by first | rfl | (rw [sCheap_s N f t m k h0]; first | (rw [if_pos (by omega)]; done) | (rw [if_neg (by omega)]; done) | (rw [if_pos (by omega)]; rfl) | (rw [if_neg (by omega)]; rfl))) (lsub_s (by first | rfl | (rw [sCheap_s N f t m k h0]; first | (rw [if_pos (by omega)]; done) | (rw [if_neg (by omega)]; done) | (rw [if_pos (by omega)]; rfl) | (rw [if_neg (by omega)]; rfl))) (lsub_s (by first | rfl | (rw [sCheap_s N f t m k h0]; first | (rw [if_pos (by omega)]; done) | (rw [if_neg (by omega)]; done) | (rw [if_pos (by omega)]; rfl) | (rw [if_neg (by omega)]; rfl))) (lsub_s (by first | rfl | (rw [sCheap_s N f t m k h0]; first | (rw [if_pos (by omega)]; done) | (rw [if_neg (by omega)]; done) | (rw [if_pos (by omega)]; rfl) | (rw [if_neg (by omega)]; rfl))) (lsub_n lsub_0))))))) (by rfl)
        · have hall : sAllIn N i f := (hpi.mp c29).2.2
          have hz2 : zc (sAllIn N i f) = 1 := zc_t hall
          have hgg := hG i h0 (by omega) hall
          refine r_aload_n (pc := 32) C 0 dX8_cheapestSet_32 rfl rfl ?_
          refine r_iload (pc := 33) C dX8_cheapestSet_33 rfl ?_
          refine r_callV (pc := 35) (is := [0, 1, 2, 3, 4]) C YX8_sumOfGains dX8_cheapestSet_35 tw_620 (c_X8_sumOfGains l G _ _ _ _ _ _ _ (by first | assumption | omega | exact zand_rng _ _ | exact zor_rng _ _ | exact zxor_rng _ _ | exact BT.r (IT.b (by assumption)) _ _) (by first | assumption | omega | exact zand_rng _ _ | exact zor_rng _ _ | exact zxor_rng _ _ | exact BT.r (IT.b (by assumption)) _ _)) 0 0 rfl rfl (ci := 8) rfl rfl rfl (by decide) rfl rfl (Nat.le_of_ble_eq_true rfl) ⟨rfl, rfl, by decide, by decide⟩ (jst_i (C_uall ..) ?_)
          refine r_iload_n (pc := 38) C 2 dX8_cheapestSet_38 rfl rfl ?_
          refine r_icmp_lt (pc := 39) (tgt := 73) C dX8_cheapestSet_39 (by decide) (by first | omega | exact zand_rng _ _ | exact zor_rng _ _ | exact zxor_rng _ _ | exact BT.r (IT.b (by assumption)) _ _) (by first | omega | exact zand_rng _ _ | exact zor_rng _ _ | exact zxor_rng _ _ | exact BT.r (IT.b (by assumption)) _ _) (fun c39 => ?_) (fun c39 => ?_)
          · 
            refine r_iinc (pc := 73) C dX8_cheapestSet_73 rfl ?_
            refine r_goto (pc := 76) (tgt := 9) C dX8_cheapestSet_76 (by decide) ?_
            refine Wc.to (ih (i + 1) (by omega) (by omega) (by omega) ) rfl (lsub_s (by first | rfl | (rw [sCheap_s N f t m k h0]; first | (rw [if_pos (by omega)]; done) | (rw [if_neg (by omega)]; done) | (rw [if_pos (by omega)]; rfl) | (rw [if_neg (by omega)]; rfl))) (lsub_s (by first | rfl | (rw [sCheap_s N f t m k h0]; first | (rw [if_pos (by omega)]; done) | (rw [if_neg (by omega)]; done) | (rw [if_pos (by omega)]; rfl) | (rw [if_neg (by omega)]; rfl))) (lsub_s (by first | rfl | (rw [sCheap_s N f t m k h0]; first | (rw [if_pos (by omega)]; done) | (rw [if_neg (by omega)]; done) | (rw [if_pos (by omega)]; rfl) | (rw [if_neg (by omega)]; rfl))) (lsub_s (by first | rfl | (rw [sCheap_s N f t m k h0]; first | (rw [if_pos (by omega)]; done) | (rw [if_neg (by omega)]; done) | (rw [if_pos (by omega)]; rfl) | (rw [if_neg (by omega)]; rfl))) (lsub_s (by first | rfl | (rw [sCheap_s N f t m k h0]; first | (rw [if_pos (by omega)]; done) | (rw [if_neg (by omega)]; done) | (rw [if_pos (by omega)]; rfl) | (rw [if_neg (by omega)]; rfl))) (lsub_s (by first | rfl | (rw [sCheap_s N f t m k h0]; first | (rw [if_pos (by omega)]; done) | (rw [if_neg (by omega)]; done) | (rw [if_pos (by omega)]; rfl) | (rw [if_neg (by omega)]; rfl))) (lsub_n lsub_0))))))) (by rfl)
          · refine r_aload_n (pc := 42) C 0 dX8_cheapestSet_42 rfl rfl ?_
            refine r_get (pc := 43) C 0 0 0 dX8_cheapestSet_43 in_X8 rfl rfl (ci := 8) rfl (by decide) tw_143 rfl rfl ?_
            refine r_iload (pc := 46) C dX8_cheapestSet_46 rfl ?_
            refine r_callV (pc := 48) (is := [1]) C YX6_worthOfAll dX8_cheapestSet_48 tw_633 (c_X6_worthOfAll l G _ _ _ (by first | assumption | omega | exact zand_rng _ _ | exact zor_rng _ _ | exact zxor_rng _ _ | exact BT.r (IT.b (by assumption)) _ _) (by first | assumption | omega | exact zand_rng _ _ | exact zor_rng _ _ | exact zxor_rng _ _ | exact BT.r (IT.b (by assumption)) _ _)) 1 0 rfl rfl (ci := 6) rfl rfl rfl (by decide) rfl rfl (Nat.le_of_ble_eq_true rfl) ⟨rfl, rfl, by decide, by decide⟩ (jst_i (C_u1 ..) ?_)
            refine r_istore (pc := 51) C dX8_cheapestSet_51 (Nat.le_of_ble_eq_true rfl) ?_
            refine r_iload_n (pc := 53) C 3 dX8_cheapestSet_53 rfl rfl ?_
            refine r_bipush (pc := 54) C dX8_cheapestSet_54 (by decide) ?_
            refine r_icmp_eq (pc := 56) (tgt := 66) C dX8_cheapestSet_56 (by decide) (by first | omega | exact zand_rng _ _ | exact zor_rng _ _ | exact zxor_rng _ _ | exact BT.r (IT.b (by assumption)) _ _) (by first | omega | exact zand_rng _ _ | exact zor_rng _ _ | exact zxor_rng _ _ | exact BT.r (IT.b (by assumption)) _ _) (fun c56 => ?_) (fun c56 => ?_)
            · refine r_iload (pc := 66) C dX8_cheapestSet_66 rfl ?_
              refine r_istore (pc := 68) C dX8_cheapestSet_68 (Nat.le_of_ble_eq_true rfl) ?_
              refine r_iload (pc := 70) C dX8_cheapestSet_70 rfl ?_
              refine r_istore_n (pc := 72) C 3 dX8_cheapestSet_72 rfl (Nat.le_of_ble_eq_true rfl) ?_
              
              refine r_iinc (pc := 73) C dX8_cheapestSet_73 rfl ?_
              refine r_goto (pc := 76) (tgt := 9) C dX8_cheapestSet_76 (by decide) ?_
              refine Wc.to (ih (i + 1) (by omega) (by omega) (by omega) ) rfl (lsub_s (by first | rfl | (rw [sCheap_s N f t m k h0]; first | (rw [if_pos (by omega)]; done) | (rw [if_neg (by omega)]; done) | (rw [if_pos (by omega)]; rfl) | (rw [if_neg (by omega)]; rfl))) (lsub_s (by first | rfl | (rw [sCheap_s N f t m k h0]; first | (rw [if_pos (by omega)]; done) | (rw [if_neg (by omega)]; done) | (rw [if_pos (by omega)]; rfl) | (rw [if_neg (by omega)]; rfl))) (lsub_s (by first | rfl | (rw [sCheap_s N f t m k h0]; first | (rw [if_pos (by omega)]; done) | (rw [if_neg (by omega)]; done) | (rw [if_pos (by omega)]; rfl) | (rw [if_neg (by omega)]; rfl))) (lsub_s (by first | rfl | (rw [sCheap_s N f t m k h0]; first | (rw [if_pos (by omega)]; done) | (rw [if_neg (by omega)]; done) | (rw [if_pos (by omega)]; rfl) | (rw [if_neg (by omega)]; rfl))) (lsub_s (by first | rfl | (rw [sCheap_s N f t m k h0]; first | (rw [if_pos (by omega)]; done) | (rw [if_neg (by omega)]; done) | (rw [if_pos (by omega)]; rfl) | (rw [if_neg (by omega)]; rfl))) (lsub_s (by first | rfl | (rw [sCheap_s N f t m k h0]; first | (rw [if_pos (by omega)]; done) | (rw [if_neg (by omega)]; done) | (rw [if_pos (by omega)]; rfl) | (rw [if_neg (by omega)]; rfl))) (lsub_n lsub_0))))))) (by rfl)
            · refine r_iload (pc := 59) C dX8_cheapestSet_59 rfl ?_
              refine r_iload (pc := 61) C dX8_cheapestSet_61 rfl ?_
              refine r_icmp_ge (pc := 63) (tgt := 73) C dX8_cheapestSet_63 (by decide) (by first | omega | exact zand_rng _ _ | exact zor_rng _ _ | exact zxor_rng _ _ | exact BT.r (IT.b (by assumption)) _ _) (by first | omega | exact zand_rng _ _ | exact zor_rng _ _ | exact zxor_rng _ _ | exact BT.r (IT.b (by assumption)) _ _) (fun c63 => ?_) (fun c63 => ?_)
              · 
                refine r_iinc (pc := 73) C dX8_cheapestSet_73 rfl ?_
                refine r_goto (pc := 76) (tgt := 9) C dX8_cheapestSet_76 (by decide) ?_
                refine Wc.to (ih (i + 1) (by omega) (by omega) (by omega) ) rfl (lsub_s (by first | rfl | (rw [sCheap_s N f t m k h0]; first | (rw [if_pos (by omega)]; done) | (rw [if_neg (by omega)]; done) | (rw [if_pos (by omega)]; rfl) | (rw [if_neg (by omega)]; rfl))) (lsub_s (by first | rfl | (rw [sCheap_s N f t m k h0]; first | (rw [if_pos (by omega)]; done) | (rw [if_neg (by omega)]; done) | (rw [if_pos (by omega)]; rfl) | (rw [if_neg (by omega)]; rfl))) (lsub_s (by first | rfl | (rw [sCheap_s N f t m k h0]; first | (rw [if_pos (by omega)]; done) | (rw [if_neg (by omega)]; done) | (rw [if_pos (by omega)]; rfl) | (rw [if_neg (by omega)]; rfl))) (lsub_s (by first | rfl | (rw [sCheap_s N f t m k h0]; first | (rw [if_pos (by omega)]; done) | (rw [if_neg (by omega)]; done) | (rw [if_pos (by omega)]; rfl) | (rw [if_neg (by omega)]; rfl))) (lsub_s (by first | rfl | (rw [sCheap_s N f t m k h0]; first | (rw [if_pos (by omega)]; done) | (rw [if_neg (by omega)]; done) | (rw [if_pos (by omega)]; rfl) | (rw [if_neg (by omega)]; rfl))) (lsub_s (by first | rfl | (rw [sCheap_s N f t m k h0]; first | (rw [if_pos (by omega)]; done) | (rw [if_neg (by omega)]; done) | (rw [if_pos (by omega)]; rfl) | (rw [if_neg (by omega)]; rfl))) (lsub_n lsub_0))))))) (by rfl)
              · refine r_iload (pc := 66) C dX8_cheapestSet_66 rfl ?_
                refine r_istore (pc := 68) C dX8_cheapestSet_68 (Nat.le_of_ble_eq_true rfl) ?_
                refine r_iload (pc := 70) C dX8_cheapestSet_70 rfl ?_
                refine r_istore_n (pc := 72) C 3 dX8_cheapestSet_72 rfl (Nat.le_of_ble_eq_true rfl) ?_
                
                refine r_iinc (pc := 73) C dX8_cheapestSet_73 rfl ?_
                refine r_goto (pc := 76) (tgt := 9) C dX8_cheapestSet_76 (by decide) ?_
                refine Wc.to (ih (i + 1) (by omega) (by omega) (by omega) ) rfl (lsub_s (by first | rfl | (rw [sCheap_s N f t m k h0]; first | (rw [if_pos (by omega)]; done) | (rw [if_neg (by omega)]; done) | (rw [if_pos (by omega)]; rfl) | (rw [if_neg (by omega)]; rfl))) (lsub_s (by first | rfl | (rw [sCheap_s N f t m k h0]; first | (rw [if_pos (by omega)]; done) | (rw [if_neg (by omega)]; done) | (rw [if_pos (by omega)]; rfl) | (rw [if_neg (by omega)]; rfl))) (lsub_s (by first | rfl | (rw [sCheap_s N f t m k h0]; first | (rw [if_pos (by omega)]; done) | (rw [if_neg (by omega)]; done) | (rw [if_pos (by omega)]; rfl) | (rw [if_neg (by omega)]; rfl))) (lsub_s (by first | rfl | (rw [sCheap_s N f t m k h0]; first | (rw [if_pos (by omega)]; done) | (rw [if_neg (by omega)]; done) | (rw [if_pos (by omega)]; rfl) | (rw [if_neg (by omega)]; rfl))) (lsub_s (by first | rfl | (rw [sCheap_s N f t m k h0]; first | (rw [if_pos (by omega)]; done) | (rw [if_neg (by omega)]; done) | (rw [if_pos (by omega)]; rfl) | (rw [if_neg (by omega)]; rfl))) (lsub_s (by first | rfl | (rw [sCheap_s N f t m k h0]; first | (rw [if_pos (by omega)]; done) | (rw [if_neg (by omega)]; done) | (rw [if_pos (by omega)]; rfl) | (rw [if_neg (by omega)]; rfl))) (lsub_n lsub_0))))))) (by rfl)
  refine Wc.to (L9 ((zp2 (N 0 1) - (0)).toNat + 1) (0) (by omega) (by omega) (by omega) ) rfl (lsub_s rfl (lsub_s rfl (lsub_s rfl (lsub_s rfl (lsub_s rfl (lsub_s rfl (lsub_n lsub_0))))))) (by rfl)

