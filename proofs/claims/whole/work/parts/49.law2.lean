/-! the law's loop -/
set_option maxRecDepth 100000 in
set_option maxHeartbeats 4000000 in
theorem lw_loop {K : KT} {l : Launch} {G : GT} {a b : Nat → Nat} {b0 L : Nat} {xs : Nat → Int32} (C : Cf K l G cL_law RL (some .boolean) room_1) (hX : va_X b0 L xs (ks K) (ks K).heap) (hbl : b0 < (ks K).heap.size) (hbA : ¬ kA K b0) (hL : L ≤ 2560) (ex : ∀ (X M P S R T : Tn) (i : Int), Wc K G 940 [some (.ref b0), some (.ref (a 0)), some (.ref (b 0)), some (.int (iI i))] [] (wW G a b X T M P S R T)) : ∀ (n : Nat) (i : Int) (X M P S R T : Tn), 0 ≤ i → i ≤ L → (L : Int) + 1 ≤ i + n → Rl X S R P T → Wc K G 18 [some (.ref b0), some (.ref (a 0)), some (.ref (b 0)), some (.int (iI i))] [] (wW G a b X T M P S R T) := by
  intro n
  induction n with
  | zero =>
    intro i X M P S R T h0 h1 h2
    omega
  | succ n ih =>
    intro i X M P S R T h0 h1 h2 hr
    refine r_iload_n (pc := 18) C 3 dL_law_18 rfl rfl ?_
    refine r_aload_n (pc := 19) C 0 dL_law_19 rfl rfl ?_
    refine r_slen (pc := 20) C hX hbl hbA dL_law_20 ?_
    refine r_iconst (pc := 21) C dL_law_21 ?_
    refine r_isub (pc := 22) C dL_law_22 ?_
    refine r_icmp_gt (pc := 23) (tgt := 940) C dL_law_23 (by decide) (by omega) (by omega) (fun c23 => ex X M P S R T i) (fun c23 => ?_)
    have nx : ∀ X' M' P' S' R' T' : Tn, Rl X' S' R' P' T' → Wc K G 934 [some (.ref b0), some (.ref (a 0)), some (.ref (b 0)), some (.int (iI i))] [] (wW G a b X' T' M' P' S' R' T') := by
      intro X' M' P' S' R' T' hr'
      refine r_iinc (pc := 934) C dL_law_934 rfl ?_
      refine r_goto (pc := 937) (tgt := 18) C dL_law_937 (by decide) ?_
      exact ih (i + 5) X' M' P' S' R' T' (by omega) (by omega) (by omega) hr'
    refine r_aload_n (pc := 26) C 0 dL_law_26 rfl rfl ?_
    refine r_iload_n (pc := 27) C 3 dL_law_27 rfl rfl ?_
    refine r_sld (pc := 28) C hX hbl hbA hL dL_law_28 (by omega) ?_
    refine r_bipush (pc := 29) C dL_law_29 (by decide) ?_
    refine r_iand (pc := 31) C dL_law_31 ?_
    have hz := zand_31 (xv xs i)
    generalize zand (xv xs i) 31 = z at hz ⊢
    by_cases s0 : z = 0
    · refine r_tblIn (pc := 32) (tgt := 160) C 0 dL_law_32 s0 (by decide) (by decide) (by decide) rfl (by decide) ?_
      exact lw_c_letter C hX hbl hbA hL (by omega) hr nx
    by_cases s1 : z = 1
    · refine r_tblIn (pc := 32) (tgt := 183) C 1 dL_law_32 s1 (by decide) (by decide) (by decide) rfl (by decide) ?_
      exact lw_c_town C hX hbl hbA hL (by omega) hr nx
    by_cases s2 : z = 2
    · refine r_tblIn (pc := 32) (tgt := 196) C 2 dL_law_32 s2 (by decide) (by decide) (by decide) rfl (by decide) ?_
      exact lw_c_loft C hX hbl hbA hL (by omega) hr nx
    by_cases s3 : z = 3
    · refine r_tblIn (pc := 32) (tgt := 229) C 3 dL_law_32 s3 (by decide) (by decide) (by decide) rfl (by decide) ?_
      exact lw_c_dove C hX hbl hbA hL (by omega) hr nx
    by_cases s4 : z = 4
    · refine r_tblIn (pc := 32) (tgt := 262) C 4 dL_law_32 s4 (by decide) (by decide) (by decide) rfl (by decide) ?_
      exact lw_c_open C hX hbl hbA hL (by omega) hr nx
    by_cases s5 : z = 5
    · refine r_tblIn (pc := 32) (tgt := 295) C 5 dL_law_32 s5 (by decide) (by decide) (by decide) rfl (by decide) ?_
      exact lw_c_hawk C hX hbl hbA hL (by omega) hr nx
    by_cases s6 : z = 6
    · refine r_tblIn (pc := 32) (tgt := 318) C 6 dL_law_32 s6 (by decide) (by decide) (by decide) rfl (by decide) ?_
      exact lw_c_carry C hX hbl hbA hL (by omega) hr nx
    by_cases s7 : z = 7
    · refine r_tblIn (pc := 32) (tgt := 351) C 7 dL_law_32 s7 (by decide) (by decide) (by decide) rfl (by decide) ?_
      exact lw_c_clip C hX hbl hbA hL (by omega) hr nx
    by_cases s8 : z = 8
    · refine r_tblIn (pc := 32) (tgt := 384) C 8 dL_law_32 s8 (by decide) (by decide) (by decide) rfl (by decide) ?_
      exact lw_c_go C hX hbl hbA hL (by omega) hr nx
    by_cases s9 : z = 9
    · refine r_tblIn (pc := 32) (tgt := 407) C 9 dL_law_32 s9 (by decide) (by decide) (by decide) rfl (by decide) ?_
      exact lw_c_dusk C hX hbl hbA hL (by omega) hr nx
    by_cases s10 : z = 10
    · refine r_tblIn (pc := 32) (tgt := 420) C 10 dL_law_32 s10 (by decide) (by decide) (by decide) rfl (by decide) ?_
      exact lw_c_way C hX hbl hbA hL (by omega) hr nx
    by_cases s11 : z = 11
    · refine r_tblIn (pc := 32) (tgt := 453) C 11 dL_law_32 s11 (by decide) (by decide) (by decide) rfl (by decide) ?_
      exact lw_c_purse C hX hbl hbA hL (by omega) hr nx
    by_cases s12 : z = 12
    · refine r_tblIn (pc := 32) (tgt := 486) C 12 dL_law_32 s12 (by decide) (by decide) (by decide) rfl (by decide) ?_
      exact lw_c_letting C hX hbl hbA hL (by omega) hr nx
    by_cases s13 : z = 13
    · refine r_tblIn (pc := 32) (tgt := 509) C 13 dL_law_32 s13 (by decide) (by decide) (by decide) rfl (by decide) ?_
      exact lw_c_stays C hX hbl hbA hL (by omega) hr nx
    by_cases s14 : z = 14
    · refine r_tblIn (pc := 32) (tgt := 552) C 14 dL_law_32 s14 (by decide) (by decide) (by decide) rfl (by decide) ?_
      exact lw_c_cheapest C hX hbl hbA hL (by omega) hr nx
    by_cases s15 : z = 15
    · refine r_tblIn (pc := 32) (tgt := 605) C 15 dL_law_32 s15 (by decide) (by decide) (by decide) rfl (by decide) ?_
      exact lw_c_near C hX hbl hbA hL (by omega) hr nx
    by_cases s16 : z = 16
    · refine r_tblIn (pc := 32) (tgt := 638) C 16 dL_law_32 s16 (by decide) (by decide) (by decide) rfl (by decide) ?_
      exact lw_c_whose C hX hbl hbA hL (by omega) hr nx
    by_cases s17 : z = 17
    · refine r_tblIn (pc := 32) (tgt := 671) C 17 dL_law_32 s17 (by decide) (by decide) (by decide) rfl (by decide) ?_
      exact lw_c_run C hX hbl hbA hL (by omega) hr nx
    by_cases s18 : z = 18
    · refine r_tblIn (pc := 32) (tgt := 704) C 18 dL_law_32 s18 (by decide) (by decide) (by decide) rfl (by decide) ?_
      exact lw_c_bestOpen C hX hbl hbA hL (by omega) hr nx
    by_cases s19 : z = 19
    · refine r_tblIn (pc := 32) (tgt := 737) C 19 dL_law_32 s19 (by decide) (by decide) (by decide) rfl (by decide) ?_
      exact lw_c_homing C hX hbl hbA hL (by omega) hr nx
    by_cases s20 : z = 20
    · refine r_tblIn (pc := 32) (tgt := 760) C 20 dL_law_32 s20 (by decide) (by decide) (by decide) rfl (by decide) ?_
      exact lw_c_spare C hX hbl hbA hL (by omega) hr nx
    by_cases s21 : z = 21
    · refine r_tblIn (pc := 32) (tgt := 783) C 21 dL_law_32 s21 (by decide) (by decide) (by decide) rfl (by decide) ?_
      exact lw_c_row C hX hbl hbA hL (by omega) hr nx
    by_cases s22 : z = 22
    · refine r_tblIn (pc := 32) (tgt := 806) C 22 dL_law_32 s22 (by decide) (by decide) (by decide) rfl (by decide) ?_
      exact lw_c_paid C hX hbl hbA hL (by omega) hr nx
    by_cases s23 : z = 23
    · refine r_tblIn (pc := 32) (tgt := 829) C 23 dL_law_32 s23 (by decide) (by decide) (by decide) rfl (by decide) ?_
      exact lw_c_judge C hX hbl hbA hL (by omega) hr nx
    by_cases s24 : z = 24
    · refine r_tblIn (pc := 32) (tgt := 842) C 24 dL_law_32 s24 (by decide) (by decide) (by decide) rfl (by decide) ?_
      exact lw_c_seeds C hX hbl hbA hL (by omega) hr nx
    by_cases s25 : z = 25
    · refine r_tblIn (pc := 32) (tgt := 885) C 25 dL_law_32 s25 (by decide) (by decide) (by decide) rfl (by decide) ?_
      exact lw_c_image C hX hbl hbA hL (by omega) hr nx
    by_cases s26 : z = 26
    · refine r_tblIn (pc := 32) (tgt := 898) C 26 dL_law_32 s26 (by decide) (by decide) (by decide) rfl (by decide) ?_
      exact lw_c_on C hX hbl hbA hL (by omega) hr nx
    by_cases s27 : z = 27
    · refine r_tblIn (pc := 32) (tgt := 911) C 27 dL_law_32 s27 (by decide) (by decide) (by decide) rfl (by decide) ?_
      exact lw_c_count C hX hbl hbA hL (by omega) hr nx
    refine r_tblOut (pc := 32) (tgt := 934) C dL_law_32 (by omega) (by omega) (by decide) ?_
    exact nx X M P S R T hr
theorem it_T0 : IT T0 := by
  refine ⟨BT_up (fun a j => by show (0 : Int) ≤ 0 ∧ (0 : Int) ≤ 2000; decide) (by decide), ?_, ?_, ?_, ?_, ?_, fun l h0 h1 => ?_, fun d h0 h1 => ?_⟩
  · show (0 : Int) ≤ 0 ∧ (0 : Int) ≤ 6
    decide
  · show (0 : Int) ≤ 0 ∧ (0 : Int) ≤ 8
    decide
  · show (0 : Int) ≤ 0 ∧ (0 : Int) < zp2 0
    decide
  · show (0 : Int) ≤ 20 ∧ (20 : Int) ≤ 20
    decide
  · show (0 : Int) ≤ 0 ∧ (0 : Int) ≤ 1100
    decide
  · have h1 : l < 0 := h1
    omega
  · have h1 : d < 0 := h1
    omega
theorem rl_0 : Rl Z0 Z0 Z0 T0 T0 := by
  refine ⟨rfl, rfl, rfl, fun _ _ _ => rfl, rfl, rfl, fun h => ?_, ⟨it_T0, ?_⟩, Or.inl rfl, ?_, ?_, fun j => ?_, fun j => ?_⟩
  · exact absurd (show (0 : Int) = 1 from h) (by decide)
  · show (0 : Int) ≤ 999
    decide
  · show (0 : Int) ≤ 0 ∧ (0 : Int) ≤ 64
    decide
  · show (0 : Int) ≤ 0 ∧ (0 : Int) ≤ 8
    decide
  · show (0 : Int) ≤ 0 ∧ (0 : Int) ≤ 255
    decide
  · show (0 : Int) ≤ 0 ∧ (0 : Int) ≤ 9
    decide

