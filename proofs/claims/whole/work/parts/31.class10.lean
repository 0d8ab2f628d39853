theorem sSum_app {g : Int → Int} {D D' : Int} (h0 : 0 ≤ D) (h1 : D ≤ D') (h : ∀ j, D ≤ j → j < D' → g j = 0) : sSum g D' = sSum g D := by
  obtain ⟨n, rfl⟩ : ∃ n : Nat, D' = D + n := ⟨(D' - D).toNat, by omega⟩
  clear h1
  induction n with
  | zero => rw [show D + ((0 : Nat) : Int) = D by omega]
  | succ n ih =>
    rw [show D + ((n + 1 : Nat) : Int) = (D + n) + 1 by omega, sSum_s g (by omega), ih (fun j a b => h j a (by omega)), h _ (by omega) (by omega), Int.add_zero]
theorem zp2_kk : ∀ D : Nat, D < 9 → ∀ d : Nat, d < 9 → D ≤ d → zp2 (D : Int) ≤ zp2 (d : Int) := by decide
theorem zbit_hi {s D d : Int} (hs : 0 ≤ s ∧ s < zp2 D) (h0 : 0 ≤ D) (hd : D ≤ d) (h8 : d < 9) : zbit s d = 0 := by
  have := zp2_kk D.toNat (by omega) d.toNat (by omega) (by omega)
  rw [show (D.toNat : Int) = D by omega, show (d.toNat : Int) = d by omega] at this
  unfold zbit
  rw [Int.ediv_eq_zero_of_lt hs.1 (by omega)]
  rfl
def sGs (F : Int → Int) (s i : Int) : Int := sSum (fun d => if zbit s d = 1 then F d else 0) i
theorem sGs_s (F : Int → Int) (s : Int) {i : Int} (h : 0 ≤ i) : sGs F s (i + 1) = sGs F s i + (if zbit s i = 1 then F i else 0) := sSum_s _ h
theorem v_stay_is {T : Tn} (h : IT T) {s q n : Int} (hs : 0 ≤ s ∧ s < zp2 (T 0 1)) (hq : 0 ≤ q ∧ q < T 0 0) (hn : 0 ≤ n) (hk : T 0 4 + n ≤ 1100) {F : Int → Int} (hF : ∀ j, 0 ≤ j → j < T 0 1 → F j = if sStayU T s q n 6 j = q then sVal (sStayU T s q n) j else 0) : sGs F s (T 0 1) = v_stay T s q n := by
  obtain ⟨a1, a2⟩ := sStayU_p h s hq hn hk
  have hD := h.D
  have hD2 := a1.D
  unfold v_stay sStayV sGs
  rw [sSum_app hD.1 a2 (fun j p q => by
    rw [if_neg (fun z => by have := zbit_hi hs hD.1 p (by omega); omega)])]
  refine sSum_cg (fun j h0 h1 => ?_)
  rw [hF j h0 h1]
  by_cases e : zbit s j = 1
  · rw [if_pos e]
    by_cases e2 : sStayU T s q n 6 j = q
    · rw [if_pos e2, if_pos ⟨e, e2⟩]
    · rw [if_neg e2, if_neg (fun z => e2 z.2)]
  · rw [if_neg e, if_neg (fun z => e z.1)]
def aGa (G : GT) (a : Nat → Nat) (X N M P S : Tn) (s q n : Int) : Option Value → List va_W → Prop := fun o g => o = none ∧ ∃ F', g = wC G a (up1 X 3 F') N (sStayU N s q n) P S ∧ ∀ j, 0 ≤ j → j < N 0 1 → F' j = if sStayU N s q n 6 j = q then sVal (sStayU N s q n) j else 0
theorem up1_f (X : Tn) (F : Int → Int) : up1 X 3 F = up1 (up1 X 2 (X 2)) 3 F := by rw [up1_id]
set_option maxRecDepth 100000 in
set_option maxHeartbeats 4000000 in
theorem c_X8_gainByCarrying (l : Launch) (G : GT) (a : Nat → Nat) (X N M P S : Tn) (s q k : Int) (hI : IT N) (hk9 : N 0 4 ≤ 999) (hs : -2147483648 ≤ s ∧ s < 2147483648) (hq : 0 ≤ q ∧ q < N 0 0) (hk40 : 0 ≤ k ∧ k ≤ 40) : Cn l yX8_gainByCarrying cX8_gainByCarrying 5 none ({ frames := 6, cells := 0, slots := 0, locals := 141 }) G [.ref (a 0), .int (iI s), .int (iI q), .int (iI k)] (wC G a X N M P S) (aGa G a X N M P S s q k) := by
  refine Cn_in RX8 [some (.ref (a 0)), some (.int (iI s)), some (.int (iI q)), some (.int (iI k)), none] (by decide +kernel) rfl rfl rfl (Nat.le_of_ble_eq_true rfl) (fun K C hQ => ?_)
  have hBB := hI.b
  have hLL := hI.L
  have hDD := hI.D
  have hkk := hI.k
  refine r_aload_n (pc := 0) C 0 dX8_gainByCarrying_0 rfl rfl ?_
  refine r_get (pc := 1) C 0 0 1 dX8_gainByCarrying_1 in_X8 rfl rfl (ci := 8) rfl (by decide) tw_144 rfl rfl ?_
  refine r_aload_n (pc := 4) C 0 dX8_gainByCarrying_4 rfl rfl ?_
  refine r_get (pc := 5) C 0 0 0 dX8_gainByCarrying_5 in_X8 rfl rfl (ci := 8) rfl (by decide) tw_143 rfl rfl ?_
  refine r_callV (pc := 8) (is := [2, 1]) C YX6_become dX8_gainByCarrying_8 tw_343 (c_X6_become l G _ _ _ _) 2 0 rfl rfl (ci := 6) rfl rfl rfl (by decide) rfl rfl (Nat.le_of_ble_eq_true rfl) ⟨rfl, rfl, by decide, by decide⟩ (jst_v (C_u2_1 ..) ?_)
  refine r_iconst (pc := 11) C dX8_gainByCarrying_11 ?_
  refine r_istore (pc := 12) C dX8_gainByCarrying_12 (Nat.le_of_ble_eq_true rfl) ?_
  have L14 : ∀ (n : Nat) (i : Int), 0 ≤ i → i ≤ N 0 1 → N 0 1 < i + n → Wc K G 14 [some (.ref (a 0)), some (.int (iI s)), some (.int (iI q)), some (.int (iI k)), some (.int (iI i))] [] (wC G a X N (sPutS N s q i) P S) := by
    intro n
    induction n with
    | zero =>
      intro i h0 h1 hn; omega
    | succ n ih =>
      intro i h0 h1 hn 
      obtain ⟨hU, hU2⟩ := sPutS_p hI s hq h0
      have e1 : sPutS N s q i 0 1 = N 0 1 := by rw [hU2 0 (by decide)]
      have e4 : sPutS N s q i 0 4 = N 0 4 := by rw [hU2 0 (by decide)]
      refine r_iload (pc := 14) C dX8_gainByCarrying_14 rfl ?_
      refine r_aload_n (pc := 16) C 0 dX8_gainByCarrying_16 rfl rfl ?_
      refine r_get (pc := 17) C 0 0 0 dX8_gainByCarrying_17 in_X8 rfl rfl (ci := 8) rfl (by decide) tw_143 rfl rfl ?_
      refine r_get (pc := 20) C 1 0 9 dX8_gainByCarrying_20 in_X6 rfl rfl (ci := 6) rfl (by decide) tw_94 rfl rfl ?_
      refine r_icmp_ge (pc := 23) (tgt := 52) C dX8_gainByCarrying_23 (by decide) (by first | omega | exact zand_rng _ _ | exact zor_rng _ _ | exact zxor_rng _ _ | exact BT.r (IT.b (by assumption)) _ _) (by first | omega | exact zand_rng _ _ | exact zor_rng _ _ | exact zxor_rng _ _ | exact BT.r (IT.b (by assumption)) _ _) (fun c23 => ?_) (fun c23 => ?_)
      · obtain rfl : i = N 0 1 := by omega
        refine r_aload_n (pc := 52) C 0 dX8_gainByCarrying_52 rfl rfl ?_
        refine r_get (pc := 53) C 0 0 1 dX8_gainByCarrying_53 in_X8 rfl rfl (ci := 8) rfl (by decide) tw_144 rfl rfl ?_
        refine r_iload_n (pc := 56) C 3 dX8_gainByCarrying_56 rfl rfl ?_
        refine r_callV (pc := 57) (is := [2]) C YX6_passDusks dX8_gainByCarrying_57 tw_595 (c_X6_passDusks l G _ _ _ (by first | assumption | omega | exact zand_rng _ _ | exact zor_rng _ _ | exact zxor_rng _ _ | exact BT.r (IT.b (by assumption)) _ _) (by first | assumption | omega | exact zand_rng _ _ | exact zor_rng _ _ | exact zxor_rng _ _ | exact BT.r (IT.b (by assumption)) _ _) (by first | assumption | omega | exact zand_rng _ _ | exact zor_rng _ _ | exact zxor_rng _ _ | exact BT.r (IT.b (by assumption)) _ _) (by first | assumption | omega | exact zand_rng _ _ | exact zor_rng _ _ | exact zxor_rng _ _ | exact BT.r (IT.b (by assumption)) _ _)) 2 0 rfl rfl (ci := 6) rfl rfl rfl (by decide) rfl rfl (Nat.le_of_ble_eq_true rfl) ⟨rfl, rfl, by decide, by decide⟩ (jst_i (C_u2 ..) ?_)
        refine r_pop (pc := 60) C dX8_gainByCarrying_60 rfl ?_
        obtain ⟨hA, hA1⟩ := sStayU_p hI s hq hk40.1 (by omega)
        have hAD := hA.D
        refine r_iconst (pc := 61) C dX8_gainByCarrying_61 ?_
        refine r_istore (pc := 62) C dX8_gainByCarrying_62 (Nat.le_of_ble_eq_true rfl) ?_
        have L64 : ∀ (n : Nat) (j : Int) (F : Int → Int), 0 ≤ j → j ≤ N 0 1 → N 0 1 < j + n → (∀ z, 0 ≤ z → z < j → F z = if sStayU N s q k 6 z = q then sVal (sStayU N s q k) z else 0) → Wc K G 64 [some (.ref (a 0)), some (.int (iI s)), some (.int (iI q)), some (.int (iI k)), some (.int (iI j))] [] (wC G a (up1 X 3 F) N (sStayU N s q k) P S) := by
          intro n
          induction n with
          | zero =>
            intro j F h80 h81 h82; omega
          | succ n ih =>
            intro j F h80 h81 h82 hF
            refine r_iload (pc := 64) C dX8_gainByCarrying_64 rfl ?_
            refine r_aload_n (pc := 66) C 0 dX8_gainByCarrying_66 rfl rfl ?_
            refine r_get (pc := 67) C 0 0 0 dX8_gainByCarrying_67 in_X8 rfl rfl (ci := 8) rfl (by decide) tw_143 rfl rfl ?_
            refine r_get (pc := 70) C 1 0 9 dX8_gainByCarrying_70 in_X6 rfl rfl (ci := 6) rfl (by decide) tw_94 rfl rfl ?_
            refine r_icmp_ge (pc := 73) (tgt := 116) C dX8_gainByCarrying_73 (by decide) (by first | omega | exact zand_rng _ _ | exact zor_rng _ _ | exact zxor_rng _ _ | exact BT.r (IT.b (by assumption)) _ _) (by first | omega | exact zand_rng _ _ | exact zor_rng _ _ | exact zxor_rng _ _ | exact BT.r (IT.b (by assumption)) _ _) (fun c73 => ?_) (fun c73 => ?_)
            · exact r_vret (pc := 116) C hQ dX8_gainByCarrying_116 rfl (by exact ⟨rfl, F, rfl, fun z p w => hF z p (by omega)⟩)
            · refine r_aload_n (pc := 76) C 0 dX8_gainByCarrying_76 rfl rfl ?_
              refine r_get (pc := 77) C 0 0 6 dX8_gainByCarrying_77 in_X8 rfl rfl (ci := 8) rfl (by decide) tw_149 rfl rfl ?_
              refine r_iload (pc := 80) C dX8_gainByCarrying_80 rfl ?_
              refine r_aload_n (pc := 82) C 0 dX8_gainByCarrying_82 rfl rfl ?_
              refine r_get (pc := 83) C 0 0 1 dX8_gainByCarrying_83 in_X8 rfl rfl (ci := 8) rfl (by decide) tw_144 rfl rfl ?_
              refine r_get (pc := 86) C 2 0 6 dX8_gainByCarrying_86 in_X6 rfl rfl (ci := 6) rfl (by decide) tw_88 rfl rfl ?_
              refine r_iload (pc := 89) C dX8_gainByCarrying_89 rfl ?_
              refine r_iaload (pc := 91) C 2 7 dX8_gainByCarrying_91 rfl rfl (by decide) (by omega) ?_
              refine r_iload_n (pc := 92) C 2 dX8_gainByCarrying_92 rfl rfl ?_
              refine r_icmp_ne (pc := 93) (tgt := 108) C dX8_gainByCarrying_93 (by decide) (by first | omega | exact zand_rng _ _ | exact zor_rng _ _ | exact zxor_rng _ _ | exact BT.r (IT.b (by assumption)) _ _) (by first | omega | exact zand_rng _ _ | exact zor_rng _ _ | exact zxor_rng _ _ | exact BT.r (IT.b (by assumption)) _ _) (fun c93 => ?_) (fun c93 => ?_)
              · refine r_iconst (pc := 108) C dX8_gainByCarrying_108 ?_
                refine r_iastore (pc := 109) C 0 3 dX8_gainByCarrying_109 rfl rfl (by decide) (by omega) rfl ((C_a0_3 ..).trans (congrArg (fun Z => wC G a Z N (sStayU N s q k) P S) (up_up1 ..))) ?_
                refine r_iinc (pc := 110) C dX8_gainByCarrying_110 rfl ?_
                refine r_goto (pc := 113) (tgt := 64) C dX8_gainByCarrying_113 (by decide) ?_
                first | refine Wc.to (ih (j + 1) (zup F j (sVal (sStayU N s q k) j)) (by omega) (by omega) (by omega) (fun z p w => if e : z = j then by rw [e, zup_s, if_pos (by omega)] else by rw [zup_n e]; exact hF z p (by omega))) rfl (lsub_s rfl (lsub_s rfl (lsub_s rfl (lsub_s rfl (lsub_s rfl lsub_0))))) rfl | refine Wc.to (ih (j + 1) (zup F j 0) (by omega) (by omega) (by omega) (fun z p w => if e : z = j then by rw [e, zup_s, if_neg (by omega)] else by rw [zup_n e]; exact hF z p (by omega))) rfl (lsub_s rfl (lsub_s rfl (lsub_s rfl (lsub_s rfl (lsub_s rfl lsub_0))))) rfl
              · refine r_aload_n (pc := 96) C 0 dX8_gainByCarrying_96 rfl rfl ?_
                refine r_get (pc := 97) C 0 0 1 dX8_gainByCarrying_97 in_X8 rfl rfl (ci := 8) rfl (by decide) tw_144 rfl rfl ?_
                refine r_iload (pc := 100) C dX8_gainByCarrying_100 rfl ?_
                refine r_callV (pc := 102) (is := [2]) C YX6_worthOf dX8_gainByCarrying_102 tw_477 (c_X6_worthOf l G _ _ _ (by first | assumption | omega | exact zand_rng _ _ | exact zor_rng _ _ | exact zxor_rng _ _ | exact BT.r (IT.b (by assumption)) _ _) (by first | assumption | omega | exact zand_rng _ _ | exact zor_rng _ _ | exact zxor_rng _ _ | exact BT.r (IT.b (by assumption)) _ _)) 2 0 rfl rfl (ci := 6) rfl rfl rfl (by decide) rfl rfl (Nat.le_of_ble_eq_true rfl) ⟨rfl, rfl, by decide, by decide⟩ (jst_i (C_u2 ..) ?_)
                refine r_goto (pc := 105) (tgt := 109) C dX8_gainByCarrying_105 (by decide) ?_
                refine r_iastore (pc := 109) C 0 3 dX8_gainByCarrying_109 rfl rfl (by decide) (by omega) rfl ((C_a0_3 ..).trans (congrArg (fun Z => wC G a Z N (sStayU N s q k) P S) (up_up1 ..))) ?_
                refine r_iinc (pc := 110) C dX8_gainByCarrying_110 rfl ?_
                refine r_goto (pc := 113) (tgt := 64) C dX8_gainByCarrying_113 (by decide) ?_
                first | refine Wc.to (ih (j + 1) (zup F j (sVal (sStayU N s q k) j)) (by omega) (by omega) (by omega) (fun z p w => if e : z = j then by rw [e, zup_s, if_pos (by omega)] else by rw [zup_n e]; exact hF z p (by omega))) rfl (lsub_s rfl (lsub_s rfl (lsub_s rfl (lsub_s rfl (lsub_s rfl lsub_0))))) rfl | refine Wc.to (ih (j + 1) (zup F j 0) (by omega) (by omega) (by omega) (fun z p w => if e : z = j then by rw [e, zup_s, if_neg (by omega)] else by rw [zup_n e]; exact hF z p (by omega))) rfl (lsub_s rfl (lsub_s rfl (lsub_s rfl (lsub_s rfl (lsub_s rfl lsub_0))))) rfl
        refine Wc.to (L64 9 0 (X 3) (by omega) (by omega) (by omega) (fun z p w => absurd w (by omega))) rfl (lsub_s rfl (lsub_s rfl (lsub_s rfl (lsub_s rfl (lsub_s rfl lsub_0))))) (by rw [up1_id]; rfl)
      · refine r_iload_n (pc := 26) C 1 dX8_gainByCarrying_26 rfl rfl ?_
        refine r_iload (pc := 27) C dX8_gainByCarrying_27 rfl ?_
        refine r_callS (pc := 29) (is := []) C YX8_isIn dX8_gainByCarrying_29 tw_619 (c_X8_isIn l G _ _ (by first | assumption | omega | exact zand_rng _ _ | exact zor_rng _ _ | exact zxor_rng _ _ | exact BT.r (IT.b (by assumption)) _ _) (by first | assumption | omega | exact zand_rng _ _ | exact zor_rng _ _ | exact zxor_rng _ _ | exact BT.r (IT.b (by assumption)) _ _)) rfl (by decide) rfl rfl (Nat.le_of_ble_eq_true rfl) ⟨rfl, rfl, by decide, by decide⟩ (jst_i (ups_nil _) ?_)
        refine r_ifb_eq (pc := 32) (tgt := 46) C dX8_gainByCarrying_32 (by decide) (fun c32 => ?_) (fun c32 => ?_)
        · refine r_iinc (pc := 46) C dX8_gainByCarrying_46 rfl ?_
          refine r_goto (pc := 49) (tgt := 14) C dX8_gainByCarrying_49 (by decide) ?_
          refine Wc.to (ih (i + 1) (by omega) (by omega) (by omega) ) rfl (lsub_s rfl (lsub_s rfl (lsub_s rfl (lsub_s rfl (lsub_s rfl lsub_0))))) (by rw [sPutS_s N s q h0]; first | rw [if_pos (by omega)] | rw [if_neg (by omega)])
        · refine r_aload_n (pc := 35) C 0 dX8_gainByCarrying_35 rfl rfl ?_
          refine r_get (pc := 36) C 0 0 1 dX8_gainByCarrying_36 in_X8 rfl rfl (ci := 8) rfl (by decide) tw_144 rfl rfl ?_
          refine r_get (pc := 39) C 2 0 6 dX8_gainByCarrying_39 in_X6 rfl rfl (ci := 6) rfl (by decide) tw_88 rfl rfl ?_
          refine r_iload (pc := 42) C dX8_gainByCarrying_42 rfl ?_
          refine r_iload_n (pc := 44) C 2 dX8_gainByCarrying_44 rfl rfl ?_
          refine r_iastore (pc := 45) C 2 7 dX8_gainByCarrying_45 rfl rfl (by decide) (by omega) rfl (C_a2_7 ..) ?_
          refine r_iinc (pc := 46) C dX8_gainByCarrying_46 rfl ?_
          refine r_goto (pc := 49) (tgt := 14) C dX8_gainByCarrying_49 (by decide) ?_
          refine Wc.to (ih (i + 1) (by omega) (by omega) (by omega) ) rfl (lsub_s rfl (lsub_s rfl (lsub_s rfl (lsub_s rfl (lsub_s rfl lsub_0))))) (by rw [sPutS_s N s q h0]; first | rw [if_pos (by omega)] | rw [if_neg (by omega)])
  refine Wc.to (L14 ((N 0 1 - (0)).toNat + 1) (0) (by omega) (by omega) (by omega) ) rfl (lsub_s rfl (lsub_s rfl (lsub_s rfl (lsub_s rfl (lsub_s rfl lsub_0))))) (by rfl)

set_option maxRecDepth 100000 in
set_option maxHeartbeats 4000000 in
theorem c_X8_sumOfGains (l : Launch) (G : GT) (a : Nat → Nat) (X N M P S : Tn) (s : Int) (hI : IT N) (hs : -2147483648 ≤ s ∧ s < 2147483648) : Cn l yX8_sumOfGains cX8_sumOfGains 4 (Option.some .int) ({ frames := 1, cells := 0, slots := 0, locals := 21 }) G [.ref (a 0), .int (iI s)] (wC G a X N M P S) (jst (some (.int (iI (sGs (X 3) s (N 0 1))))) (wC G a X N M P S)) := by
  refine Cn_in RX8 [some (.ref (a 0)), some (.int (iI s)), none, none] (by decide +kernel) rfl rfl rfl (Nat.le_of_ble_eq_true rfl) (fun K C hQ => ?_)
  have hDD := hI.D
  refine r_iconst (pc := 0) C dX8_sumOfGains_0 ?_
  refine r_istore_n (pc := 1) C 2 dX8_sumOfGains_1 rfl (Nat.le_of_ble_eq_true rfl) ?_
  refine r_iconst (pc := 2) C dX8_sumOfGains_2 ?_
  refine r_istore_n (pc := 3) C 3 dX8_sumOfGains_3 rfl (Nat.le_of_ble_eq_true rfl) ?_
  have L4 : ∀ (n : Nat) (i : Int), 0 ≤ i → i ≤ N 0 1 → N 0 1 < i + n → Wc K G 4 [some (.ref (a 0)), some (.int (iI s)), some (.int (iI (sGs (X 3) s i))), some (.int (iI i))] [] (wC G a X N M P S) := by
    intro n
    induction n with
    | zero =>
      intro i h0 h1 hn; omega
    | succ n ih =>
      intro i h0 h1 hn 
      refine r_iload_n (pc := 4) C 3 dX8_sumOfGains_4 rfl rfl ?_
      refine r_aload_n (pc := 5) C 0 dX8_sumOfGains_5 rfl rfl ?_
      refine r_get (pc := 6) C 0 0 0 dX8_sumOfGains_6 in_X8 rfl rfl (ci := 8) rfl (by decide) tw_143 rfl rfl ?_
      refine r_get (pc := 9) C 1 0 9 dX8_sumOfGains_9 in_X6 rfl rfl (ci := 6) rfl (by decide) tw_94 rfl rfl ?_
      refine r_icmp_ge (pc := 12) (tgt := 38) C dX8_sumOfGains_12 (by decide) (by first | omega | exact zand_rng _ _ | exact zor_rng _ _ | exact zxor_rng _ _ | exact BT.r (IT.b (by assumption)) _ _) (by first | omega | exact zand_rng _ _ | exact zor_rng _ _ | exact zxor_rng _ _ | exact BT.r (IT.b (by assumption)) _ _) (fun c12 => ?_) (fun c12 => ?_)
      · refine r_iload_n (pc := 38) C 2 dX8_sumOfGains_38 rfl rfl ?_
        exact r_iret (pc := 39) C hQ dX8_sumOfGains_39 rfl (jst_ri (by rw [show N 0 1 = i by omega]) rfl)
      · refine r_iload_n (pc := 15) C 1 dX8_sumOfGains_15 rfl rfl ?_
        refine r_iload_n (pc := 16) C 3 dX8_sumOfGains_16 rfl rfl ?_
        refine r_callS (pc := 17) (is := []) C YX8_isIn dX8_sumOfGains_17 tw_619 (c_X8_isIn l G _ _ (by first | assumption | omega | exact zand_rng _ _ | exact zor_rng _ _ | exact zxor_rng _ _ | exact BT.r (IT.b (by assumption)) _ _) (by first | assumption | omega | exact zand_rng _ _ | exact zor_rng _ _ | exact zxor_rng _ _ | exact BT.r (IT.b (by assumption)) _ _)) rfl (by decide) rfl rfl (Nat.le_of_ble_eq_true rfl) ⟨rfl, rfl, by decide, by decide⟩ (jst_i (ups_nil _) ?_)
        refine r_ifb_eq (pc := 20) (tgt := 32) C dX8_sumOfGains_20 (by decide) (fun c20 => ?_) (fun c20 => ?_)
        · refine r_iinc (pc := 32) C dX8_sumOfGains_32 rfl ?_
          refine r_goto (pc := 35) (tgt := 4) C dX8_sumOfGains_35 (by decide) ?_
          refine Wc.to (ih (i + 1) (by omega) (by omega) (by omega) ) rfl (lsub_s (by first | rfl | (rw [sGs_s (X 3) s h0]; first | rw [if_pos (by omega)] | rw [if_neg (by omega), Int.add_zero])) (lsub_s (by first | rfl | (rw [sGs_s (X 3) s h0]; first | rw [if_pos (by omega)] | rw [if_neg (by omega), Int.add_zero])) (lsub_s (by first | rfl | (rw [sGs_s (X 3) s h0]; first | rw [if_pos (by omega)] | rw [if_neg (by omega), Int.add_zero])) (lsub_s (by first | rfl | (rw [sGs_s (X 3) s h0]; first | rw [if_pos (by omega)] | rw [if_neg (by omega), Int.add_zero])) lsub_0)))) (by rfl)
        · refine r_iload_n (pc := 23) C 2 dX8_sumOfGains_23 rfl rfl ?_
          refine r_aload_n (pc := 24) C 0 dX8_sumOfGains_24 rfl rfl ?_
          refine r_get (pc := 25) C 0 0 6 dX8_sumOfGains_25 in_X8 rfl rfl (ci := 8) rfl (by decide) tw_149 rfl rfl ?_
          refine r_iload_n (pc := 28) C 3 dX8_sumOfGains_28 rfl rfl ?_
          refine r_iaload (pc := 29) C 0 3 dX8_sumOfGains_29 rfl rfl (by decide) (by omega) ?_
          refine r_iadd (pc := 30) C dX8_sumOfGains_30 ?_
          refine r_istore_n (pc := 31) C 2 dX8_sumOfGains_31 rfl (Nat.le_of_ble_eq_true rfl) ?_
          refine r_iinc (pc := 32) C dX8_sumOfGains_32 rfl ?_
          refine r_goto (pc := 35) (tgt := 4) C dX8_sumOfGains_35 (by decide) ?_
          refine Wc.to (ih (i + 1) (by omega) (by omega) (by omega) ) rfl (lsub_s (by first | rfl | (rw [sGs_s (X 3) s h0]; first | rw [if_pos (by omega)] | rw [if_neg (by omega), Int.add_zero])) (lsub_s (by first | rfl | (rw [sGs_s (X 3) s h0]; first | rw [if_pos (by omega)] | rw [if_neg (by omega), Int.add_zero])) (lsub_s (by first | rfl | (rw [sGs_s (X 3) s h0]; first | rw [if_pos (by omega)] | rw [if_neg (by omega), Int.add_zero])) (lsub_s (by first | rfl | (rw [sGs_s (X 3) s h0]; first | rw [if_pos (by omega)] | rw [if_neg (by omega), Int.add_zero])) lsub_0)))) (by rfl)
  refine Wc.to (L4 ((N 0 1 - (0)).toNat + 1) (0) (by omega) (by omega) (by omega) ) rfl (lsub_s rfl (lsub_s rfl (lsub_s rfl (lsub_s rfl lsub_0)))) (by rfl)

