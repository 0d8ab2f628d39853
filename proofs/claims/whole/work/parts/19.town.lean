theorem up1_id (R : Tn) (a : Nat) : up1 R a (R a) = R := by
  funext j
  unfold up1
  by_cases e : j = a
  · rw [if_pos e, e]
  · rw [if_neg e]
theorem rd_41 (R : Tn) (p : Int) (F F4 : Int → Int) : up1 (rd R p F) 4 F4 = rd (up1 R 4 F4) p F := by
  funext a
  unfold rd up up1
  by_cases e : a = 7
  · subst e; rfl
  · by_cases e4 : a = 4
    · subst e4; rfl
    · by_cases e0 : a = 0
      · subst e0; rfl
      · simp only [if_neg e, if_neg e4, if_neg e0]
abbrev rq (R : Tn) (p : Int) (F : Int → Int) (U : Tn) : Tn := rd (up1 R 4 (flat U)) p F
section
variable {G : GT} {b : Nat → Nat} {R T : Tn} {p q : Int} {F F' : Int → Int} {z v : Int} {U U' : Tn}
theorem rq_a4 (e : zup (flat U) z v = flat U') : (wR G b (rq R p F U) T).set 4 (([(b 4, ia G.2.1 57 (rq R p F U 4))] : va_W).set 0 (b 4, ia G.2.1 57 (zup (rq R p F U 4) z v))) = wR G b (rq R p F U') T := by
  have h1 : up (rq R p F U) 4 z v = rq R p F U' := by
    show up (rd (up1 R 4 (flat U)) p F) 4 z v = rd (up1 R 4 (flat U')) p F
    rw [← rd_41, ← rd_41, ← e]
    funext a
    unfold up up1
    by_cases e4 : a = 4
    · subst e4; rfl
    · simp only [if_neg e4]
  rw [← h1]
  rfl
end
def aRd (G : GT) (b : Nat → Nat) (R T : Tn) : Option Value → List va_W → Prop := fun o g => o = some (.int (iI (v_town (R 6) (R 0 1) T))) ∧ ∃ q F' F4, g = wR G b (rd (up1 R 4 F4) q F') (t_town (R 6) (R 0 1) T)
def aTown (G : GT) (b : Nat → Nat) (R T : Tn) : Option Value → List va_W → Prop := fun o g => o = some (.int (iI (v_town (R 6) (R 0 1) T))) ∧ ∃ R' : Tn, g = wR G b R' (t_town (R 6) (R 0 1) T) ∧ R' 0 0 = R 0 0 ∧ R' 0 1 = 0 ∧ R' 0 3 = R 0 3 ∧ R' 1 = R 1 ∧ R' 3 = R 3 ∧ R' 6 = R 6 ∧ R' 8 = R 8
set_option maxRecDepth 100000 in
set_option maxHeartbeats 4000000 in
theorem c_X9_comes (l : Launch) (G : GT) (b : Nat → Nat) (R T : Tn) (p q : Int) (F : Int → Int) (U : Tn) (hI : IT U) (hF : sTl (R 6) (R 0 1) q F) (hN : sNm (R 6) (R 0 1) q) (hgc : -2147483648 ≤ sg (R 6) (R 0 1) q ∧ sg (R 6) (R 0 1) q < 2147483648) : Cn l yX9_comes cX9_comes 5 (Option.some .boolean) ({ frames := 0, cells := 0, slots := 0, locals := 0 }) G [.ref (b 0), .int (iI (sg (R 6) (R 0 1) q))] (wR G b (rq R p F U) T) (jst (some (.int (iI (zc (sOk (R 6) (R 0 1) q U))))) (wR G b (rq R p F (if zc (sOk (R 6) (R 0 1) q U) = 1 then (sTo (R 6) (R 0 1) q U) else U)) T)) := by
  refine Cn_in RX9 [some (.ref (b 0)), some (.int (iI (sg (R 6) (R 0 1) q))), none, none, none] (by decide +kernel) rfl rfl rfl (Nat.le_of_ble_eq_true rfl) (fun K C hQ => ?_)
  obtain ⟨f1, f2, f3, f4⟩ := hF
  obtain ⟨n1, n2, n3, n4, n5⟩ := hN
  have hL := hI.L
  have hD := hI.D
  refine r_aload_n (pc := 0) C 0 dX9_comes_0 rfl rfl ?_
  refine r_get (pc := 1) C 0 0 7 dX9_comes_1 in_X9 rfl rfl (ci := 9) rfl (by decide) tw_748 rfl rfl ?_
  refine r_iconst (pc := 4) C dX9_comes_4 ?_
  refine r_ialoadE (pc := 5) C 7 0 dX9_comes_5 rfl rfl (by decide) (by omega) (show F 0 = F 0 from rfl) ?_
  refine r_istore_n (pc := 6) C 2 dX9_comes_6 rfl (Nat.le_of_ble_eq_true rfl) ?_
  refine r_iload_n (pc := 7) C 1 dX9_comes_7 rfl rfl ?_
  by_cases s8_100 : sg (R 6) (R 0 1) q = 100
  · refine r_look (pc := 8) (tgt := 108) (off := 100) C dX9_comes_8 hgc (by decide) (by (try show Op.lookupswitch.offset _ _ _ = _); rw [s8_100]; (try exact z_osy)) (by decide) ?_
    have g1 := f2 s8_100
    obtain ⟨k1, ⟨k2, k3⟩, k4, k5⟩ := n2 s8_100
    refine r_aload_n (pc := 108) C 0 dX9_comes_108 rfl rfl ?_
    refine r_get (pc := 109) C 0 0 7 dX9_comes_109 in_X9 rfl rfl (ci := 9) rfl (by decide) tw_748 rfl rfl ?_
    refine r_iconst (pc := 112) C dX9_comes_112 ?_
    refine r_ialoadE (pc := 113) C 7 0 dX9_comes_113 rfl rfl (by decide) (by omega) (show F 1 = F 1 from rfl) ?_
    refine r_aload_n (pc := 114) C 0 dX9_comes_114 rfl rfl ?_
    refine r_get (pc := 115) C 0 0 3 dX9_comes_115 in_X9 rfl rfl (ci := 9) rfl (by decide) tw_744 rfl rfl ?_
    refine r_iconst (pc := 118) C dX9_comes_118 ?_
    refine r_ialoadE (pc := 119) C 4 0 dX9_comes_119 rfl rfl (by decide) (by omega) (show flat U 0 = U 0 0 from flat_0 _ (by decide)) ?_
    refine r_icmp_ge (pc := 120) (tgt := 134) C dX9_comes_120 (by decide) (by first | omega | exact hgc | exact BT.r (IT.b hI) _ _) (by first | omega | exact hgc | exact BT.r (IT.b hI) _ _) (fun c120 => ?_) (fun c120 => ?_)
    · have hno : ¬ (sOk (R 6) (R 0 1) q U) := by unfold sOk; rw [if_neg (by omega), if_pos s8_100]; omega
      refine r_iconst (pc := 134) C dX9_comes_134 ?_
      exact r_zret (pc := 135) C hQ dX9_comes_135 (by decide) rfl (jst_ri (by exact (zc_f hno).symm) (by first | (rw [if_pos (zc_t hys)]; exact hgs) | (rw [if_pos (zc_t hys)]; exact hgs.symm) | (rw [if_neg (by rw [zc_f hno]; decide)]; done) | (rw [if_neg (by rw [zc_f hno]; decide)]; rfl)))
    · refine r_aload_n (pc := 123) C 0 dX9_comes_123 rfl rfl ?_
      refine r_get (pc := 124) C 0 0 3 dX9_comes_124 in_X9 rfl rfl (ci := 9) rfl (by decide) tw_744 rfl rfl ?_
      refine r_iconst (pc := 127) C dX9_comes_127 ?_
      refine r_ialoadE (pc := 128) C 4 0 dX9_comes_128 rfl rfl (by decide) (by omega) (show flat U 1 = U 0 1 from flat_0 _ (by decide)) ?_
      refine r_bipush (pc := 129) C dX9_comes_129 (by decide) ?_
      refine r_icmp_ne (pc := 131) (tgt := 136) C dX9_comes_131 (by decide) (by first | omega | exact hgc | exact BT.r (IT.b hI) _ _) (by first | omega | exact hgc | exact BT.r (IT.b hI) _ _) (fun c131 => ?_) (fun c131 => ?_)
      · have hys : (sOk (R 6) (R 0 1) q U) := by unfold sOk; rw [if_neg (by omega), if_pos s8_100]; omega
        have hgs : wR G b (rq R p F (up (up (up (up (up (up (U) 3 (U 0 1) (F 0)) 4 (U 0 1) (F 1)) 5 (U 0 1) (F 2)) 6 (U 0 1) (F 1)) 7 (U 0 1) (0)) 0 1 (U 0 1 + 1))) T = wR G b (rq R p F (sTo (R 6) (R 0 1) q U)) T := by unfold sTo; rw [if_neg (by omega), if_pos s8_100, ← g1.1, ← g1.2.1, ← g1.2.2]; rfl
        refine r_bipush (pc := 136) C dX9_comes_136 (by decide) ?_
        refine r_iconst (pc := 138) C dX9_comes_138 ?_
        refine r_aload_n (pc := 139) C 0 dX9_comes_139 rfl rfl ?_
        refine r_get (pc := 140) C 0 0 3 dX9_comes_140 in_X9 rfl rfl (ci := 9) rfl (by decide) tw_744 rfl rfl ?_
        refine r_iconst (pc := 143) C dX9_comes_143 ?_
        refine r_ialoadE (pc := 144) C 4 0 dX9_comes_144 rfl rfl (by decide) (by omega) (show flat U 1 = U 0 1 from flat_0 _ (by decide)) ?_
        refine r_imul (pc := 145) C dX9_comes_145 ?_
        refine r_iadd (pc := 146) C dX9_comes_146 ?_
        refine r_istore_n (pc := 147) C 3 dX9_comes_147 rfl (Nat.le_of_ble_eq_true rfl) ?_
        refine r_iconst (pc := 148) C dX9_comes_148 ?_
        refine r_istore (pc := 149) C dX9_comes_149 (Nat.le_of_ble_eq_true rfl) ?_
        refine r_iload (pc := 151) C dX9_comes_151 rfl ?_
        refine r_iconst (pc := 153) C dX9_comes_153 ?_
        refine r_icmp_ge (pc := 154) (tgt := 179) C dX9_comes_154 (by decide) (by first | omega | exact hgc | exact BT.r (IT.b hI) _ _) (by first | omega | exact hgc | exact BT.r (IT.b hI) _ _) (fun c154 => absurd c154 (by omega)) (fun c154 => ?_)
        refine r_aload_n (pc := 157) C 0 dX9_comes_157 rfl rfl ?_
        refine r_get (pc := 158) C 0 0 3 dX9_comes_158 in_X9 rfl rfl (ci := 9) rfl (by decide) tw_744 rfl rfl ?_
        refine r_iload_n (pc := 161) C 3 dX9_comes_161 rfl rfl ?_
        refine r_iload (pc := 162) C dX9_comes_162 rfl ?_
        refine r_iadd (pc := 164) C dX9_comes_164 ?_
        refine r_aload_n (pc := 165) C 0 dX9_comes_165 rfl rfl ?_
        refine r_get (pc := 166) C 0 0 7 dX9_comes_166 in_X9 rfl rfl (ci := 9) rfl (by decide) tw_748 rfl rfl ?_
        refine r_iload (pc := 169) C dX9_comes_169 rfl ?_
        refine r_ialoadE (pc := 171) C 7 0 dX9_comes_171 rfl rfl (by decide) (by omega) (show F 0 = F 0 from rfl) ?_
        refine r_iastore (pc := 172) C 4 0 dX9_comes_172 rfl rfl (by decide) (by omega) rfl (rq_a4 (U' := up (U) 3 (U 0 1) (F 0)) (flat_ud (U) (d := U 0 1) (k := 0) (by omega) (by decide))) ?_
        refine r_iinc (pc := 173) C dX9_comes_173 rfl ?_
        refine r_goto (pc := 176) (tgt := 151) C dX9_comes_176 (by decide) ?_
        refine r_iload (pc := 151) C dX9_comes_151 rfl ?_
        refine r_iconst (pc := 153) C dX9_comes_153 ?_
        refine r_icmp_ge (pc := 154) (tgt := 179) C dX9_comes_154 (by decide) (by first | omega | exact hgc | exact BT.r (IT.b hI) _ _) (by first | omega | exact hgc | exact BT.r (IT.b hI) _ _) (fun c154 => absurd c154 (by omega)) (fun c154 => ?_)
        refine r_aload_n (pc := 157) C 0 dX9_comes_157 rfl rfl ?_
        refine r_get (pc := 158) C 0 0 3 dX9_comes_158 in_X9 rfl rfl (ci := 9) rfl (by decide) tw_744 rfl rfl ?_
        refine r_iload_n (pc := 161) C 3 dX9_comes_161 rfl rfl ?_
        refine r_iload (pc := 162) C dX9_comes_162 rfl ?_
        refine r_iadd (pc := 164) C dX9_comes_164 ?_
        refine r_aload_n (pc := 165) C 0 dX9_comes_165 rfl rfl ?_
        refine r_get (pc := 166) C 0 0 7 dX9_comes_166 in_X9 rfl rfl (ci := 9) rfl (by decide) tw_748 rfl rfl ?_
        refine r_iload (pc := 169) C dX9_comes_169 rfl ?_
        refine r_ialoadE (pc := 171) C 7 0 dX9_comes_171 rfl rfl (by decide) (by omega) (show F (0 + 1) = F 1 from rfl) ?_
        refine r_iastore (pc := 172) C 4 0 dX9_comes_172 rfl rfl (by decide) (by omega) rfl (rq_a4 (U' := up (up (U) 3 (U 0 1) (F 0)) 4 (U 0 1) (F 1)) (flat_ud (up (U) 3 (U 0 1) (F 0)) (d := U 0 1) (k := 0 + 1) (by omega) (by decide))) ?_
        refine r_iinc (pc := 173) C dX9_comes_173 rfl ?_
        refine r_goto (pc := 176) (tgt := 151) C dX9_comes_176 (by decide) ?_
        refine r_iload (pc := 151) C dX9_comes_151 rfl ?_
        refine r_iconst (pc := 153) C dX9_comes_153 ?_
        refine r_icmp_ge (pc := 154) (tgt := 179) C dX9_comes_154 (by decide) (by first | omega | exact hgc | exact BT.r (IT.b hI) _ _) (by first | omega | exact hgc | exact BT.r (IT.b hI) _ _) (fun c154 => absurd c154 (by omega)) (fun c154 => ?_)
        refine r_aload_n (pc := 157) C 0 dX9_comes_157 rfl rfl ?_
        refine r_get (pc := 158) C 0 0 3 dX9_comes_158 in_X9 rfl rfl (ci := 9) rfl (by decide) tw_744 rfl rfl ?_
        refine r_iload_n (pc := 161) C 3 dX9_comes_161 rfl rfl ?_
        refine r_iload (pc := 162) C dX9_comes_162 rfl ?_
        refine r_iadd (pc := 164) C dX9_comes_164 ?_
        refine r_aload_n (pc := 165) C 0 dX9_comes_165 rfl rfl ?_
        refine r_get (pc := 166) C 0 0 7 dX9_comes_166 in_X9 rfl rfl (ci := 9) rfl (by decide) tw_748 rfl rfl ?_
        refine r_iload (pc := 169) C dX9_comes_169 rfl ?_
        refine r_ialoadE (pc := 171) C 7 0 dX9_comes_171 rfl rfl (by decide) (by omega) (show F (0 + 1 + 1) = F 2 from rfl) ?_
        refine r_iastore (pc := 172) C 4 0 dX9_comes_172 rfl rfl (by decide) (by omega) rfl (rq_a4 (U' := up (up (up (U) 3 (U 0 1) (F 0)) 4 (U 0 1) (F 1)) 5 (U 0 1) (F 2)) (flat_ud (up (up (U) 3 (U 0 1) (F 0)) 4 (U 0 1) (F 1)) (d := U 0 1) (k := 0 + 1 + 1) (by omega) (by decide))) ?_
        refine r_iinc (pc := 173) C dX9_comes_173 rfl ?_
        refine r_goto (pc := 176) (tgt := 151) C dX9_comes_176 (by decide) ?_
        refine r_iload (pc := 151) C dX9_comes_151 rfl ?_
        refine r_iconst (pc := 153) C dX9_comes_153 ?_
        refine r_icmp_ge (pc := 154) (tgt := 179) C dX9_comes_154 (by decide) (by first | omega | exact hgc | exact BT.r (IT.b hI) _ _) (by first | omega | exact hgc | exact BT.r (IT.b hI) _ _) (fun c154 => ?_) (fun c154 => absurd c154 (by omega))
        refine r_aload_n (pc := 179) C 0 dX9_comes_179 rfl rfl ?_
        refine r_get (pc := 180) C 0 0 3 dX9_comes_180 in_X9 rfl rfl (ci := 9) rfl (by decide) tw_744 rfl rfl ?_
        refine r_iload_n (pc := 183) C 3 dX9_comes_183 rfl rfl ?_
        refine r_iconst (pc := 184) C dX9_comes_184 ?_
        refine r_iadd (pc := 185) C dX9_comes_185 ?_
        refine r_aload_n (pc := 186) C 0 dX9_comes_186 rfl rfl ?_
        refine r_get (pc := 187) C 0 0 7 dX9_comes_187 in_X9 rfl rfl (ci := 9) rfl (by decide) tw_748 rfl rfl ?_
        refine r_iconst (pc := 190) C dX9_comes_190 ?_
        refine r_ialoadE (pc := 191) C 7 0 dX9_comes_191 rfl rfl (by decide) (by omega) (show F 1 = F 1 from rfl) ?_
        refine r_iastore (pc := 192) C 4 0 dX9_comes_192 rfl rfl (by decide) (by omega) rfl (rq_a4 (U' := up (up (up (up (U) 3 (U 0 1) (F 0)) 4 (U 0 1) (F 1)) 5 (U 0 1) (F 2)) 6 (U 0 1) (F 1)) (flat_ud (up (up (up (U) 3 (U 0 1) (F 0)) 4 (U 0 1) (F 1)) 5 (U 0 1) (F 2)) (d := U 0 1) (k := 3) (by omega) (by decide))) ?_
        refine r_aload_n (pc := 193) C 0 dX9_comes_193 rfl rfl ?_
        refine r_get (pc := 194) C 0 0 3 dX9_comes_194 in_X9 rfl rfl (ci := 9) rfl (by decide) tw_744 rfl rfl ?_
        refine r_iload_n (pc := 197) C 3 dX9_comes_197 rfl rfl ?_
        refine r_iconst (pc := 198) C dX9_comes_198 ?_
        refine r_iadd (pc := 199) C dX9_comes_199 ?_
        refine r_iconst (pc := 200) C dX9_comes_200 ?_
        refine r_iastore (pc := 201) C 4 0 dX9_comes_201 rfl rfl (by decide) (by omega) rfl (rq_a4 (U' := up (up (up (up (up (U) 3 (U 0 1) (F 0)) 4 (U 0 1) (F 1)) 5 (U 0 1) (F 2)) 6 (U 0 1) (F 1)) 7 (U 0 1) (0)) (flat_ud (up (up (up (up (U) 3 (U 0 1) (F 0)) 4 (U 0 1) (F 1)) 5 (U 0 1) (F 2)) 6 (U 0 1) (F 1)) (d := U 0 1) (k := 4) (by omega) (by decide))) ?_
        refine r_aload_n (pc := 202) C 0 dX9_comes_202 rfl rfl ?_
        refine r_get (pc := 203) C 0 0 3 dX9_comes_203 in_X9 rfl rfl (ci := 9) rfl (by decide) tw_744 rfl rfl ?_
        refine r_iconst (pc := 206) C dX9_comes_206 ?_
        refine r_dup2 (pc := 207) C dX9_comes_207 rfl rfl ?_
        refine r_ialoadE (pc := 208) C 4 0 dX9_comes_208 rfl rfl (by decide) (by omega) (show flat (up (up (up (up (up (U) 3 (U 0 1) (F 0)) 4 (U 0 1) (F 1)) 5 (U 0 1) (F 2)) 6 (U 0 1) (F 1)) 7 (U 0 1) (0)) 1 = U 0 1 from flat_0 _ (by decide)) ?_
        refine r_iconst (pc := 209) C dX9_comes_209 ?_
        refine r_iadd (pc := 210) C dX9_comes_210 ?_
        refine r_iastore (pc := 211) C 4 0 dX9_comes_211 rfl rfl (by decide) (by omega) rfl (rq_a4 (U' := up (up (up (up (up (up (U) 3 (U 0 1) (F 0)) 4 (U 0 1) (F 1)) 5 (U 0 1) (F 2)) 6 (U 0 1) (F 1)) 7 (U 0 1) (0)) 0 1 (U 0 1 + 1)) (flat_u0 (up (up (up (up (up (U) 3 (U 0 1) (F 0)) 4 (U 0 1) (F 1)) 5 (U 0 1) (F 2)) 6 (U 0 1) (F 1)) 7 (U 0 1) (0)) (by decide))) ?_
        refine r_iconst (pc := 212) C dX9_comes_212 ?_
        exact r_zret (pc := 213) C hQ dX9_comes_213 (by decide) rfl (jst_ri (by exact (zc_t hys).symm) (by first | (rw [if_pos (zc_t hys)]; exact hgs) | (rw [if_pos (zc_t hys)]; exact hgs.symm) | (rw [if_neg (by rw [zc_f hno]; decide)]; done) | (rw [if_neg (by rw [zc_f hno]; decide)]; rfl)))
      · have hno : ¬ (sOk (R 6) (R 0 1) q U) := by unfold sOk; rw [if_neg (by omega), if_pos s8_100]; omega
        refine r_iconst (pc := 134) C dX9_comes_134 ?_
        exact r_zret (pc := 135) C hQ dX9_comes_135 (by decide) rfl (jst_ri (by exact (zc_f hno).symm) (by first | (rw [if_pos (zc_t hys)]; exact hgs) | (rw [if_pos (zc_t hys)]; exact hgs.symm) | (rw [if_neg (by rw [zc_f hno]; decide)]; done) | (rw [if_neg (by rw [zc_f hno]; decide)]; rfl)))
  by_cases s8_108 : sg (R 6) (R 0 1) q = 108
  · refine r_look (pc := 8) (tgt := 44) (off := 36) C dX9_comes_8 hgc (by decide) (by (try show Op.lookupswitch.offset _ _ _ = _); rw [z_osw s8_100]; rw [s8_108]; (try exact z_osy)) (by decide) ?_
    have g1 := f1 s8_108
    obtain ⟨⟨k1, k2⟩, k3, k4⟩ := n1 s8_108
    refine r_aload_n (pc := 44) C 0 dX9_comes_44 rfl rfl ?_
    refine r_get (pc := 45) C 0 0 3 dX9_comes_45 in_X9 rfl rfl (ci := 9) rfl (by decide) tw_744 rfl rfl ?_
    refine r_iconst (pc := 48) C dX9_comes_48 ?_
    refine r_ialoadE (pc := 49) C 4 0 dX9_comes_49 rfl rfl (by decide) (by omega) (show flat U 0 = U 0 0 from flat_0 _ (by decide)) ?_
    refine r_bipush (pc := 50) C dX9_comes_50 (by decide) ?_
    refine r_icmp_ne (pc := 52) (tgt := 57) C dX9_comes_52 (by decide) (by first | omega | exact hgc | exact BT.r (IT.b hI) _ _) (by first | omega | exact hgc | exact BT.r (IT.b hI) _ _) (fun c52 => ?_) (fun c52 => ?_)
    · have hys : (sOk (R 6) (R 0 1) q U) := by unfold sOk; rw [if_pos s8_108]; omega
      have hgs : wR G b (rq R p F (up (up (up U 1 (U 0 0) (F 0)) 2 (U 0 0) (F 1)) 0 0 (U 0 0 + 1))) T = wR G b (rq R p F (sTo (R 6) (R 0 1) q U)) T := by unfold sTo; rw [if_pos s8_108, ← g1.1, ← g1.2]
      refine r_aload_n (pc := 57) C 0 dX9_comes_57 rfl rfl ?_
      refine r_get (pc := 58) C 0 0 3 dX9_comes_58 in_X9 rfl rfl (ci := 9) rfl (by decide) tw_744 rfl rfl ?_
      refine r_iconst (pc := 61) C dX9_comes_61 ?_
      refine r_iconst (pc := 62) C dX9_comes_62 ?_
      refine r_aload_n (pc := 63) C 0 dX9_comes_63 rfl rfl ?_
      refine r_get (pc := 64) C 0 0 3 dX9_comes_64 in_X9 rfl rfl (ci := 9) rfl (by decide) tw_744 rfl rfl ?_
      refine r_iconst (pc := 67) C dX9_comes_67 ?_
      refine r_ialoadE (pc := 68) C 4 0 dX9_comes_68 rfl rfl (by decide) (by omega) (show flat U 0 = U 0 0 from flat_0 _ (by decide)) ?_
      refine r_imul (pc := 69) C dX9_comes_69 ?_
      refine r_iadd (pc := 70) C dX9_comes_70 ?_
      refine r_iload_n (pc := 71) C 2 dX9_comes_71 rfl rfl ?_
      refine r_iastore (pc := 72) C 4 0 dX9_comes_72 rfl rfl (by decide) (by omega) rfl (rq_a4 (U' := up U 1 (U 0 0) (F 0)) (by have := flat_ux U (l := U 0 0) (k := 0) (v := F 0) (by omega) (by decide); rw [Int.add_zero] at this; exact this)) ?_
      refine r_aload_n (pc := 73) C 0 dX9_comes_73 rfl rfl ?_
      refine r_get (pc := 74) C 0 0 3 dX9_comes_74 in_X9 rfl rfl (ci := 9) rfl (by decide) tw_744 rfl rfl ?_
      refine r_iconst (pc := 77) C dX9_comes_77 ?_
      refine r_iconst (pc := 78) C dX9_comes_78 ?_
      refine r_aload_n (pc := 79) C 0 dX9_comes_79 rfl rfl ?_
      refine r_get (pc := 80) C 0 0 3 dX9_comes_80 in_X9 rfl rfl (ci := 9) rfl (by decide) tw_744 rfl rfl ?_
      refine r_iconst (pc := 83) C dX9_comes_83 ?_
      refine r_ialoadE (pc := 84) C 4 0 dX9_comes_84 rfl rfl (by decide) (by omega) (show flat (up U 1 (U 0 0) (F 0)) 0 = U 0 0 from flat_0 _ (by decide)) ?_
      refine r_imul (pc := 85) C dX9_comes_85 ?_
      refine r_iadd (pc := 86) C dX9_comes_86 ?_
      refine r_iconst (pc := 87) C dX9_comes_87 ?_
      refine r_iadd (pc := 88) C dX9_comes_88 ?_
      refine r_aload_n (pc := 89) C 0 dX9_comes_89 rfl rfl ?_
      refine r_get (pc := 90) C 0 0 7 dX9_comes_90 in_X9 rfl rfl (ci := 9) rfl (by decide) tw_748 rfl rfl ?_
      refine r_iconst (pc := 93) C dX9_comes_93 ?_
      refine r_ialoadE (pc := 94) C 7 0 dX9_comes_94 rfl rfl (by decide) (by omega) (show F 1 = F 1 from rfl) ?_
      refine r_iastore (pc := 95) C 4 0 dX9_comes_95 rfl rfl (by decide) (by omega) rfl (rq_a4 (U' := up (up U 1 (U 0 0) (F 0)) 2 (U 0 0) (F 1)) (flat_ux (up U 1 (U 0 0) (F 0)) (l := U 0 0) (k := 1) (v := F 1) (by omega) (by decide))) ?_
      refine r_aload_n (pc := 96) C 0 dX9_comes_96 rfl rfl ?_
      refine r_get (pc := 97) C 0 0 3 dX9_comes_97 in_X9 rfl rfl (ci := 9) rfl (by decide) tw_744 rfl rfl ?_
      refine r_iconst (pc := 100) C dX9_comes_100 ?_
      refine r_dup2 (pc := 101) C dX9_comes_101 rfl rfl ?_
      refine r_ialoadE (pc := 102) C 4 0 dX9_comes_102 rfl rfl (by decide) (by omega) (show flat (up (up U 1 (U 0 0) (F 0)) 2 (U 0 0) (F 1)) 0 = U 0 0 from flat_0 _ (by decide)) ?_
      refine r_iconst (pc := 103) C dX9_comes_103 ?_
      refine r_iadd (pc := 104) C dX9_comes_104 ?_
      refine r_iastore (pc := 105) C 4 0 dX9_comes_105 rfl rfl (by decide) (by omega) rfl (rq_a4 (U' := up (up (up U 1 (U 0 0) (F 0)) 2 (U 0 0) (F 1)) 0 0 (U 0 0 + 1)) (flat_u0 (up (up U 1 (U 0 0) (F 0)) 2 (U 0 0) (F 1)) (by decide))) ?_
      refine r_iconst (pc := 106) C dX9_comes_106 ?_
      exact r_zret (pc := 107) C hQ dX9_comes_107 (by decide) rfl (jst_ri (by exact (zc_t hys).symm) (by first | (rw [if_pos (zc_t hys)]; exact hgs) | (rw [if_pos (zc_t hys)]; exact hgs.symm) | (rw [if_neg (by rw [zc_f hno]; decide)]; done) | (rw [if_neg (by rw [zc_f hno]; decide)]; rfl)))
    · have hno : ¬ (sOk (R 6) (R 0 1) q U) := by unfold sOk; rw [if_pos s8_108]; omega
      refine r_iconst (pc := 55) C dX9_comes_55 ?_
      exact r_zret (pc := 56) C hQ dX9_comes_56 (by decide) rfl (jst_ri (by exact (zc_f hno).symm) (by first | (rw [if_pos (zc_t hys)]; exact hgs) | (rw [if_pos (zc_t hys)]; exact hgs.symm) | (rw [if_neg (by rw [zc_f hno]; decide)]; done) | (rw [if_neg (by rw [zc_f hno]; decide)]; rfl)))
  by_cases s8_111 : sg (R 6) (R 0 1) q = 111
  · refine r_look (pc := 8) (tgt := 214) (off := 206) C dX9_comes_8 hgc (by decide) (by (try show Op.lookupswitch.offset _ _ _ = _); rw [z_osw s8_100]; rw [z_osw s8_108]; rw [s8_111]; (try exact z_osy)) (by decide) ?_
    have g1 := f3 s8_111
    obtain ⟨k1, k2⟩ := n3 s8_111
    refine r_iload_n (pc := 214) C 2 dX9_comes_214 rfl rfl ?_
    refine r_aload_n (pc := 215) C 0 dX9_comes_215 rfl rfl ?_
    refine r_get (pc := 216) C 0 0 3 dX9_comes_216 in_X9 rfl rfl (ci := 9) rfl (by decide) tw_744 rfl rfl ?_
    refine r_iconst (pc := 219) C dX9_comes_219 ?_
    refine r_ialoadE (pc := 220) C 4 0 dX9_comes_220 rfl rfl (by decide) (by omega) (show flat U 0 = U 0 0 from flat_0 _ (by decide)) ?_
    refine r_icmp_lt (pc := 221) (tgt := 226) C dX9_comes_221 (by decide) (by first | omega | exact hgc | exact BT.r (IT.b hI) _ _) (by first | omega | exact hgc | exact BT.r (IT.b hI) _ _) (fun c221 => ?_) (fun c221 => ?_)
    · have hys : (sOk (R 6) (R 0 1) q U) := by unfold sOk; rw [if_neg (by omega), if_neg (by omega), if_pos s8_111]; omega
      have hgs : wR G b (rq R p F (up U 0 2 (zxor (U 0 2) (1 * zp2 (F 0))))) T = wR G b (rq R p F (sTo (R 6) (R 0 1) q U)) T := by unfold sTo; rw [if_neg (by omega), if_neg (by omega), if_pos s8_111, ← g1]
      refine r_aload_n (pc := 226) C 0 dX9_comes_226 rfl rfl ?_
      refine r_get (pc := 227) C 0 0 3 dX9_comes_227 in_X9 rfl rfl (ci := 9) rfl (by decide) tw_744 rfl rfl ?_
      refine r_iconst (pc := 230) C dX9_comes_230 ?_
      refine r_dup2 (pc := 231) C dX9_comes_231 rfl rfl ?_
      refine r_ialoadE (pc := 232) C 4 0 dX9_comes_232 rfl rfl (by decide) (by omega) (show flat U 2 = U 0 2 from flat_0 _ (by decide)) ?_
      refine r_iconst (pc := 233) C dX9_comes_233 ?_
      refine r_iload_n (pc := 234) C 2 dX9_comes_234 rfl rfl ?_
      refine r_ishl (pc := 235) C dX9_comes_235 (by omega) ?_
      refine r_ixor (pc := 236) C dX9_comes_236 ?_
      refine r_iastore (pc := 237) C 4 0 dX9_comes_237 rfl rfl (by decide) (by omega) rfl (rq_a4 (U' := up U 0 2 (zxor (U 0 2) (1 * zp2 (F 0)))) (flat_u0 U (by decide))) ?_
      refine r_iconst (pc := 238) C dX9_comes_238 ?_
      exact r_zret (pc := 239) C hQ dX9_comes_239 (by decide) rfl (jst_ri (by exact (zc_t hys).symm) (by first | (rw [if_pos (zc_t hys)]; exact hgs) | (rw [if_pos (zc_t hys)]; exact hgs.symm) | (rw [if_neg (by rw [zc_f hno]; decide)]; done) | (rw [if_neg (by rw [zc_f hno]; decide)]; rfl)))
    · have hno : ¬ (sOk (R 6) (R 0 1) q U) := by unfold sOk; rw [if_neg (by omega), if_neg (by omega), if_pos s8_111]; omega
      refine r_iconst (pc := 224) C dX9_comes_224 ?_
      exact r_zret (pc := 225) C hQ dX9_comes_225 (by decide) rfl (jst_ri (by exact (zc_f hno).symm) (by first | (rw [if_pos (zc_t hys)]; exact hgs) | (rw [if_pos (zc_t hys)]; exact hgs.symm) | (rw [if_neg (by rw [zc_f hno]; decide)]; done) | (rw [if_neg (by rw [zc_f hno]; decide)]; rfl)))
  refine r_look (pc := 8) (tgt := 240) (off := 232) C dX9_comes_8 hgc (by decide) (by (try show Op.lookupswitch.offset _ _ _ = _); rw [z_osw s8_100]; rw [z_osw s8_108]; rw [z_osw s8_111]; (try rfl)) (by decide) ?_
  have s104 : sg (R 6) (R 0 1) q = 104 := by omega
  have g1 := f4 s104
  have k1 := n4 s104
  refine r_iload_n (pc := 240) C 2 dX9_comes_240 rfl rfl ?_
  refine r_bipush (pc := 241) C dX9_comes_241 (by decide) ?_
  refine r_icmp_le (pc := 243) (tgt := 248) C dX9_comes_243 (by decide) (by first | omega | exact hgc | exact BT.r (IT.b hI) _ _) (by first | omega | exact hgc | exact BT.r (IT.b hI) _ _) (fun c243 => ?_) (fun c243 => ?_)
  · have hys : (sOk (R 6) (R 0 1) q U) := by unfold sOk; rw [if_neg (by omega), if_neg (by omega), if_neg (by omega)]; omega
    have hgs : wR G b (rq R p F (up U 0 3 (F 0))) T = wR G b (rq R p F (sTo (R 6) (R 0 1) q U)) T := by unfold sTo; rw [if_neg (by omega), if_neg (by omega), if_neg (by omega), ← g1]
    refine r_aload_n (pc := 248) C 0 dX9_comes_248 rfl rfl ?_
    refine r_get (pc := 249) C 0 0 3 dX9_comes_249 in_X9 rfl rfl (ci := 9) rfl (by decide) tw_744 rfl rfl ?_
    refine r_iconst (pc := 252) C dX9_comes_252 ?_
    refine r_iload_n (pc := 253) C 2 dX9_comes_253 rfl rfl ?_
    refine r_iastore (pc := 254) C 4 0 dX9_comes_254 rfl rfl (by decide) (by omega) rfl (rq_a4 (U' := up U 0 3 (F 0)) (flat_u0 U (by decide))) ?_
    refine r_iconst (pc := 255) C dX9_comes_255 ?_
    exact r_zret (pc := 256) C hQ dX9_comes_256 (by decide) rfl (jst_ri (by exact (zc_t hys).symm) (by first | (rw [if_pos (zc_t hys)]; exact hgs) | (rw [if_pos (zc_t hys)]; exact hgs.symm) | (rw [if_neg (by rw [zc_f hno]; decide)]; done) | (rw [if_neg (by rw [zc_f hno]; decide)]; rfl)))
  · have hno : ¬ (sOk (R 6) (R 0 1) q U) := by unfold sOk; rw [if_neg (by omega), if_neg (by omega), if_neg (by omega)]; omega
    refine r_iconst (pc := 246) C dX9_comes_246 ?_
    exact r_zret (pc := 247) C hQ dX9_comes_247 (by decide) rfl (jst_ri (by exact (zc_f hno).symm) (by first | (rw [if_pos (zc_t hys)]; exact hgs) | (rw [if_pos (zc_t hys)]; exact hgs.symm) | (rw [if_neg (by rw [zc_f hno]; decide)]; done) | (rw [if_neg (by rw [zc_f hno]; decide)]; rfl)))

