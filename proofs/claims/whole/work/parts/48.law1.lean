set_option maxRecDepth 100000 in
set_option maxHeartbeats 4000000 in
theorem lw_c_letter {K : KT} {l : Launch} {G : GT} {a b : Nat → Nat} {b0 L : Nat} {xs : Nat → Int32} {i : Int} {X M P S R T : Tn} (C : Cf K l G cL_law RL (some .boolean) room_1) (hX : va_X b0 L xs (ks K) (ks K).heap) (hbl : b0 < (ks K).heap.size) (hbA : ¬ kA K b0) (hL : L ≤ 2560) (hi : 0 ≤ i ∧ i + 5 ≤ L) (hr : Rl X S R P T) (nx : ∀ X' M' P' S' R' T' : Tn, Rl X' S' R' P' T' → Wc K G 934 [some (.ref b0), some (.ref (a 0)), some (.ref (b 0)), some (.int (iI i))] [] (wW G a b X' T' M' P' S' R' T')) : Wc K G 160 [some (.ref b0), some (.ref (a 0)), some (.ref (b 0)), some (.int (iI i))] [] (wW G a b X T M P S R T) := by
  refine r_aload_n (pc := 160) C 1 dL_law_160 rfl rfl ?_
  refine r_aload_n (pc := 161) C 0 dL_law_161 rfl rfl ?_
  refine r_iload_n (pc := 162) C 3 dL_law_162 rfl rfl ?_
  refine r_iconst (pc := 163) C dL_law_163 ?_
  refine r_iadd (pc := 164) C dL_law_164 ?_
  refine r_sld (pc := 165) C hX hbl hbA hL dL_law_165 (by omega) ?_
  refine r_callV (pc := 166) (is := [0, 1, 2, 3, 4]) C YX8_letter dL_law_166 tw_174 (c_X8_letter l G _ _ _ _ _ _ _ (by first | exact xv_r _ _ | exact hr.it | exact hr.ir | exact hr.ix | exact hr.k | exact hr.ir.2.1 | exact hr.ir.2.2.2.1 | assumption | omega) (by first | exact xv_r _ _ | exact hr.it | exact hr.ir | exact hr.ix | exact hr.k | exact hr.ir.2.1 | exact hr.ir.2.2.2.1 | assumption | omega) (by first | exact xv_r _ _ | exact hr.it | exact hr.ir | exact hr.ix | exact hr.k | exact hr.ir.2.1 | exact hr.ir.2.2.2.1 | assumption | omega)) 0 0 rfl rfl (ci := 8) rfl rfl rfl (by decide) rfl rfl (Nat.le_of_ble_eq_true rfl) ⟨rfl, rfl, by decide, by decide⟩ (jst_i (W_u0_1_2_3_4 ..) ?_)
  refine r_aload_n (pc := 169) C 2 dL_law_169 rfl rfl ?_
  refine r_aload_n (pc := 170) C 0 dL_law_170 rfl rfl ?_
  refine r_iload_n (pc := 171) C 3 dL_law_171 rfl rfl ?_
  refine r_iconst (pc := 172) C dL_law_172 ?_
  refine r_iadd (pc := 173) C dL_law_173 ?_
  refine r_sld (pc := 174) C hX hbl hbA hL dL_law_174 (by omega) ?_
  refine r_callV (pc := 175) (is := [5, 6, 7, 8, 9, 10, 11, 12, 13]) C YX9_letter dL_law_175 tw_778 (c_X9_letter l G _ _ _ _ (by first | exact xv_r _ _ | exact hr.it | exact hr.ir | exact hr.ix | exact hr.k | exact hr.ir.2.1 | exact hr.ir.2.2.2.1 | assumption | omega) (by first | exact xv_r _ _ | exact hr.it | exact hr.ir | exact hr.ix | exact hr.k | exact hr.ir.2.1 | exact hr.ir.2.2.2.1 | assumption | omega) (by first | exact xv_r _ _ | exact hr.it | exact hr.ir | exact hr.ix | exact hr.k | exact hr.ir.2.1 | exact hr.ir.2.2.2.1 | assumption | omega)) 5 0 rfl rfl (ci := 9) rfl rfl rfl (by decide) rfl rfl (Nat.le_of_ble_eq_true rfl) ⟨rfl, rfl, by decide, by decide⟩ (jst_i (W_u5_6_7_8_9_10_11_12_13 ..) ?_)
  rw [hr.s0]
  refine r_same (pc := 178) (tgt := 934) C dL_law_178 (by decide) rfl ?_
  exact nx _ _ _ _ _ _ (rl_zif (qr_letter _ _) hr (fun hq => rl_letter hr hq))

set_option maxRecDepth 100000 in
set_option maxHeartbeats 4000000 in
theorem lw_c_town {K : KT} {l : Launch} {G : GT} {a b : Nat → Nat} {b0 L : Nat} {xs : Nat → Int32} {i : Int} {X M P S R T : Tn} (C : Cf K l G cL_law RL (some .boolean) room_1) (hX : va_X b0 L xs (ks K) (ks K).heap) (hbl : b0 < (ks K).heap.size) (hbA : ¬ kA K b0) (hL : L ≤ 2560) (hi : 0 ≤ i ∧ i + 5 ≤ L) (hr : Rl X S R P T) (nx : ∀ X' M' P' S' R' T' : Tn, Rl X' S' R' P' T' → Wc K G 934 [some (.ref b0), some (.ref (a 0)), some (.ref (b 0)), some (.int (iI i))] [] (wW G a b X' T' M' P' S' R' T')) : Wc K G 183 [some (.ref b0), some (.ref (a 0)), some (.ref (b 0)), some (.int (iI i))] [] (wW G a b X T M P S R T) := by
  refine r_aload_n (pc := 183) C 1 dL_law_183 rfl rfl ?_
  refine r_callV (pc := 184) (is := [0, 1, 2, 3, 4]) C YX8_town dL_law_184 tw_194 (c_X8_town l G _ _ _ _ _ _ (by first | exact xv_r _ _ | exact hr.it | exact hr.ir | exact hr.ix | exact hr.k | exact hr.ir.2.1 | exact hr.ir.2.2.2.1 | assumption | omega) (by first | exact xv_r _ _ | exact hr.it | exact hr.ir | exact hr.ix | exact hr.k | exact hr.ir.2.1 | exact hr.ir.2.2.2.1 | assumption | omega)) 0 0 rfl rfl (ci := 8) rfl rfl rfl (by decide) rfl rfl (Nat.le_of_ble_eq_true rfl) ⟨rfl, rfl, by decide, by decide⟩ ?_
  refine fun o g hq0 _ => ?_
  obtain ⟨rfl, M1, rfl⟩ := hq0
  show Wc K G _ _ (.int (iI (v_town (S 1) (S 0 0) T)) :: _) (wW G a b X (t_town (S 1) (S 0 0) T) M1 P (up S 0 0 0) R T)
  refine r_aload_n (pc := 187) C 2 dL_law_187 rfl rfl ?_
  refine r_callV (pc := 188) (is := [5, 6, 7, 8, 9, 10, 11, 12, 13]) C YX9_town dL_law_188 tw_789 (c_X9_town l G _ _ _ (by first | exact xv_r _ _ | exact hr.it | exact hr.ir | exact hr.ix | exact hr.k | exact hr.ir.2.1 | exact hr.ir.2.2.2.1 | assumption | omega) (by first | exact xv_r _ _ | exact hr.it | exact hr.ir | exact hr.ix | exact hr.k | exact hr.ir.2.1 | exact hr.ir.2.2.2.1 | assumption | omega) (by first | exact xv_r _ _ | exact hr.it | exact hr.ir | exact hr.ix | exact hr.k | exact hr.ir.2.1 | exact hr.ir.2.2.2.1 | assumption | omega)) 5 0 rfl rfl (ci := 9) rfl rfl rfl (by decide) rfl rfl (Nat.le_of_ble_eq_true rfl) ⟨rfl, rfl, by decide, by decide⟩ ?_
  refine fun o g hq0 _ => ?_
  obtain ⟨rfl, R2, rfl, hR2⟩ := hq0
  show Wc K G _ _ (.int (iI (v_town (R 6) (R 0 1) T)) :: _) (wW G a b X (t_town (S 1) (S 0 0) T) M1 P (up S 0 0 0) R2 (t_town (R 6) (R 0 1) T))
  rw [hr.s0, hr.s1]
  refine r_same (pc := 191) (tgt := 934) C dL_law_191 (by decide) rfl ?_
  exact nx _ _ _ _ _ _ (rl_town hr hR2)

set_option maxRecDepth 100000 in
set_option maxHeartbeats 4000000 in
theorem lw_c_loft {K : KT} {l : Launch} {G : GT} {a b : Nat → Nat} {b0 L : Nat} {xs : Nat → Int32} {i : Int} {X M P S R T : Tn} (C : Cf K l G cL_law RL (some .boolean) room_1) (hX : va_X b0 L xs (ks K) (ks K).heap) (hbl : b0 < (ks K).heap.size) (hbA : ¬ kA K b0) (hL : L ≤ 2560) (hi : 0 ≤ i ∧ i + 5 ≤ L) (hr : Rl X S R P T) (nx : ∀ X' M' P' S' R' T' : Tn, Rl X' S' R' P' T' → Wc K G 934 [some (.ref b0), some (.ref (a 0)), some (.ref (b 0)), some (.int (iI i))] [] (wW G a b X' T' M' P' S' R' T')) : Wc K G 196 [some (.ref b0), some (.ref (a 0)), some (.ref (b 0)), some (.int (iI i))] [] (wW G a b X T M P S R T) := by
  refine r_aload_n (pc := 196) C 1 dL_law_196 rfl rfl ?_
  refine r_aload_n (pc := 197) C 0 dL_law_197 rfl rfl ?_
  refine r_iload_n (pc := 198) C 3 dL_law_198 rfl rfl ?_
  refine r_iconst (pc := 199) C dL_law_199 ?_
  refine r_iadd (pc := 200) C dL_law_200 ?_
  refine r_sld (pc := 201) C hX hbl hbA hL dL_law_201 (by omega) ?_
  refine r_aload_n (pc := 202) C 0 dL_law_202 rfl rfl ?_
  refine r_iload_n (pc := 203) C 3 dL_law_203 rfl rfl ?_
  refine r_iconst (pc := 204) C dL_law_204 ?_
  refine r_iadd (pc := 205) C dL_law_205 ?_
  refine r_sld (pc := 206) C hX hbl hbA hL dL_law_206 (by omega) ?_
  refine r_callV (pc := 207) (is := [0, 1, 2, 3, 4]) C YX8_loft dL_law_207 tw_395 (c_X8_loft l G _ _ _ _ _ _ _ _ (by first | exact xv_r _ _ | exact hr.it | exact hr.ir | exact hr.ix | exact hr.k | exact hr.ir.2.1 | exact hr.ir.2.2.2.1 | assumption | omega) (by first | exact xv_r _ _ | exact hr.it | exact hr.ir | exact hr.ix | exact hr.k | exact hr.ir.2.1 | exact hr.ir.2.2.2.1 | assumption | omega) (by first | exact xv_r _ _ | exact hr.it | exact hr.ir | exact hr.ix | exact hr.k | exact hr.ir.2.1 | exact hr.ir.2.2.2.1 | assumption | omega) (by first | exact xv_r _ _ | exact hr.it | exact hr.ir | exact hr.ix | exact hr.k | exact hr.ir.2.1 | exact hr.ir.2.2.2.1 | assumption | omega)) 0 0 rfl rfl (ci := 8) rfl rfl rfl (by decide) rfl rfl (Nat.le_of_ble_eq_true rfl) ⟨rfl, rfl, by decide, by decide⟩ (jst_i (W_u0_1_2_3_4 ..) ?_)
  refine r_aload_n (pc := 210) C 2 dL_law_210 rfl rfl ?_
  refine r_aload_n (pc := 211) C 0 dL_law_211 rfl rfl ?_
  refine r_iload_n (pc := 212) C 3 dL_law_212 rfl rfl ?_
  refine r_iconst (pc := 213) C dL_law_213 ?_
  refine r_iadd (pc := 214) C dL_law_214 ?_
  refine r_sld (pc := 215) C hX hbl hbA hL dL_law_215 (by omega) ?_
  refine r_aload_n (pc := 216) C 0 dL_law_216 rfl rfl ?_
  refine r_iload_n (pc := 217) C 3 dL_law_217 rfl rfl ?_
  refine r_iconst (pc := 218) C dL_law_218 ?_
  refine r_iadd (pc := 219) C dL_law_219 ?_
  refine r_sld (pc := 220) C hX hbl hbA hL dL_law_220 (by omega) ?_
  refine r_callV (pc := 221) (is := [5, 6, 7, 8, 9, 10, 11, 12, 13]) C YX9_loft dL_law_221 tw_830 (c_X9_loft l G _ _ _ _ _ (by first | exact xv_r _ _ | exact hr.it | exact hr.ir | exact hr.ix | exact hr.k | exact hr.ir.2.1 | exact hr.ir.2.2.2.1 | assumption | omega) (by first | exact xv_r _ _ | exact hr.it | exact hr.ir | exact hr.ix | exact hr.k | exact hr.ir.2.1 | exact hr.ir.2.2.2.1 | assumption | omega) (by first | exact xv_r _ _ | exact hr.it | exact hr.ir | exact hr.ix | exact hr.k | exact hr.ir.2.1 | exact hr.ir.2.2.2.1 | assumption | omega) (by first | exact xv_r _ _ | exact hr.it | exact hr.ir | exact hr.ix | exact hr.k | exact hr.ir.2.1 | exact hr.ir.2.2.2.1 | assumption | omega)) 5 0 rfl rfl (ci := 9) rfl rfl rfl (by decide) rfl rfl (Nat.le_of_ble_eq_true rfl) ⟨rfl, rfl, by decide, by decide⟩ (jst_i (W_u5_6_7_8_9_10_11_12_13 ..) ?_)
  refine r_same (pc := 224) (tgt := 934) C dL_law_224 (by decide) rfl ?_
  exact nx _ _ _ _ _ _ (rl_zif (qr_loft _ _ _) hr (fun _ => hr))

set_option maxRecDepth 100000 in
set_option maxHeartbeats 4000000 in
theorem lw_c_dove {K : KT} {l : Launch} {G : GT} {a b : Nat → Nat} {b0 L : Nat} {xs : Nat → Int32} {i : Int} {X M P S R T : Tn} (C : Cf K l G cL_law RL (some .boolean) room_1) (hX : va_X b0 L xs (ks K) (ks K).heap) (hbl : b0 < (ks K).heap.size) (hbA : ¬ kA K b0) (hL : L ≤ 2560) (hi : 0 ≤ i ∧ i + 5 ≤ L) (hr : Rl X S R P T) (nx : ∀ X' M' P' S' R' T' : Tn, Rl X' S' R' P' T' → Wc K G 934 [some (.ref b0), some (.ref (a 0)), some (.ref (b 0)), some (.int (iI i))] [] (wW G a b X' T' M' P' S' R' T')) : Wc K G 229 [some (.ref b0), some (.ref (a 0)), some (.ref (b 0)), some (.int (iI i))] [] (wW G a b X T M P S R T) := by
  refine r_aload_n (pc := 229) C 1 dL_law_229 rfl rfl ?_
  refine r_aload_n (pc := 230) C 0 dL_law_230 rfl rfl ?_
  refine r_iload_n (pc := 231) C 3 dL_law_231 rfl rfl ?_
  refine r_iconst (pc := 232) C dL_law_232 ?_
  refine r_iadd (pc := 233) C dL_law_233 ?_
  refine r_sld (pc := 234) C hX hbl hbA hL dL_law_234 (by omega) ?_
  refine r_aload_n (pc := 235) C 0 dL_law_235 rfl rfl ?_
  refine r_iload_n (pc := 236) C 3 dL_law_236 rfl rfl ?_
  refine r_iconst (pc := 237) C dL_law_237 ?_
  refine r_iadd (pc := 238) C dL_law_238 ?_
  refine r_sld (pc := 239) C hX hbl hbA hL dL_law_239 (by omega) ?_
  refine r_callV (pc := 240) (is := [0, 1, 2, 3, 4]) C YX8_dove dL_law_240 tw_472 (c_X8_dove l G _ _ _ _ _ _ _ _ (by first | exact xv_r _ _ | exact hr.it | exact hr.ir | exact hr.ix | exact hr.k | exact hr.ir.2.1 | exact hr.ir.2.2.2.1 | assumption | omega) (by first | exact xv_r _ _ | exact hr.it | exact hr.ir | exact hr.ix | exact hr.k | exact hr.ir.2.1 | exact hr.ir.2.2.2.1 | assumption | omega) (by first | exact xv_r _ _ | exact hr.it | exact hr.ir | exact hr.ix | exact hr.k | exact hr.ir.2.1 | exact hr.ir.2.2.2.1 | assumption | omega) (by first | exact xv_r _ _ | exact hr.it | exact hr.ir | exact hr.ix | exact hr.k | exact hr.ir.2.1 | exact hr.ir.2.2.2.1 | assumption | omega)) 0 0 rfl rfl (ci := 8) rfl rfl rfl (by decide) rfl rfl (Nat.le_of_ble_eq_true rfl) ⟨rfl, rfl, by decide, by decide⟩ (jst_i (W_u0_1_2_3_4 ..) ?_)
  refine r_aload_n (pc := 243) C 2 dL_law_243 rfl rfl ?_
  refine r_aload_n (pc := 244) C 0 dL_law_244 rfl rfl ?_
  refine r_iload_n (pc := 245) C 3 dL_law_245 rfl rfl ?_
  refine r_iconst (pc := 246) C dL_law_246 ?_
  refine r_iadd (pc := 247) C dL_law_247 ?_
  refine r_sld (pc := 248) C hX hbl hbA hL dL_law_248 (by omega) ?_
  refine r_aload_n (pc := 249) C 0 dL_law_249 rfl rfl ?_
  refine r_iload_n (pc := 250) C 3 dL_law_250 rfl rfl ?_
  refine r_iconst (pc := 251) C dL_law_251 ?_
  refine r_iadd (pc := 252) C dL_law_252 ?_
  refine r_sld (pc := 253) C hX hbl hbA hL dL_law_253 (by omega) ?_
  refine r_callV (pc := 254) (is := [5, 6, 7, 8, 9, 10, 11, 12, 13]) C YX9_dove dL_law_254 tw_858 (c_X9_dove l G _ _ _ _ _ (by first | exact xv_r _ _ | exact hr.it | exact hr.ir | exact hr.ix | exact hr.k | exact hr.ir.2.1 | exact hr.ir.2.2.2.1 | assumption | omega) (by first | exact xv_r _ _ | exact hr.it | exact hr.ir | exact hr.ix | exact hr.k | exact hr.ir.2.1 | exact hr.ir.2.2.2.1 | assumption | omega) (by first | exact xv_r _ _ | exact hr.it | exact hr.ir | exact hr.ix | exact hr.k | exact hr.ir.2.1 | exact hr.ir.2.2.2.1 | assumption | omega) (by first | exact xv_r _ _ | exact hr.it | exact hr.ir | exact hr.ix | exact hr.k | exact hr.ir.2.1 | exact hr.ir.2.2.2.1 | assumption | omega)) 5 0 rfl rfl (ci := 9) rfl rfl rfl (by decide) rfl rfl (Nat.le_of_ble_eq_true rfl) ⟨rfl, rfl, by decide, by decide⟩ (jst_i (W_u5_6_7_8_9_10_11_12_13 ..) ?_)
  refine r_same (pc := 257) (tgt := 934) C dL_law_257 (by decide) rfl ?_
  exact nx _ _ _ _ _ _ (rl_zif (qr_dove _ _ _) hr (fun _ => hr))

set_option maxRecDepth 100000 in
set_option maxHeartbeats 4000000 in
theorem lw_c_open {K : KT} {l : Launch} {G : GT} {a b : Nat → Nat} {b0 L : Nat} {xs : Nat → Int32} {i : Int} {X M P S R T : Tn} (C : Cf K l G cL_law RL (some .boolean) room_1) (hX : va_X b0 L xs (ks K) (ks K).heap) (hbl : b0 < (ks K).heap.size) (hbA : ¬ kA K b0) (hL : L ≤ 2560) (hi : 0 ≤ i ∧ i + 5 ≤ L) (hr : Rl X S R P T) (nx : ∀ X' M' P' S' R' T' : Tn, Rl X' S' R' P' T' → Wc K G 934 [some (.ref b0), some (.ref (a 0)), some (.ref (b 0)), some (.int (iI i))] [] (wW G a b X' T' M' P' S' R' T')) : Wc K G 262 [some (.ref b0), some (.ref (a 0)), some (.ref (b 0)), some (.int (iI i))] [] (wW G a b X T M P S R T) := by
  refine r_aload_n (pc := 262) C 1 dL_law_262 rfl rfl ?_
  refine r_aload_n (pc := 263) C 0 dL_law_263 rfl rfl ?_
  refine r_iload_n (pc := 264) C 3 dL_law_264 rfl rfl ?_
  refine r_iconst (pc := 265) C dL_law_265 ?_
  refine r_iadd (pc := 266) C dL_law_266 ?_
  refine r_sld (pc := 267) C hX hbl hbA hL dL_law_267 (by omega) ?_
  refine r_aload_n (pc := 268) C 0 dL_law_268 rfl rfl ?_
  refine r_iload_n (pc := 269) C 3 dL_law_269 rfl rfl ?_
  refine r_iconst (pc := 270) C dL_law_270 ?_
  refine r_iadd (pc := 271) C dL_law_271 ?_
  refine r_sld (pc := 272) C hX hbl hbA hL dL_law_272 (by omega) ?_
  refine r_callV (pc := 273) (is := [0, 1, 2, 3, 4]) C YX8_open dL_law_273 tw_512 (c_X8_open l G _ _ _ _ _ _ _ _ (by first | exact xv_r _ _ | exact hr.it | exact hr.ir | exact hr.ix | exact hr.k | exact hr.ir.2.1 | exact hr.ir.2.2.2.1 | assumption | omega) (by first | exact xv_r _ _ | exact hr.it | exact hr.ir | exact hr.ix | exact hr.k | exact hr.ir.2.1 | exact hr.ir.2.2.2.1 | assumption | omega) (by first | exact xv_r _ _ | exact hr.it | exact hr.ir | exact hr.ix | exact hr.k | exact hr.ir.2.1 | exact hr.ir.2.2.2.1 | assumption | omega) (by first | exact xv_r _ _ | exact hr.it | exact hr.ir | exact hr.ix | exact hr.k | exact hr.ir.2.1 | exact hr.ir.2.2.2.1 | assumption | omega)) 0 0 rfl rfl (ci := 8) rfl rfl rfl (by decide) rfl rfl (Nat.le_of_ble_eq_true rfl) ⟨rfl, rfl, by decide, by decide⟩ (jst_i (W_u0_1_2_3_4 ..) ?_)
  refine r_aload_n (pc := 276) C 2 dL_law_276 rfl rfl ?_
  refine r_aload_n (pc := 277) C 0 dL_law_277 rfl rfl ?_
  refine r_iload_n (pc := 278) C 3 dL_law_278 rfl rfl ?_
  refine r_iconst (pc := 279) C dL_law_279 ?_
  refine r_iadd (pc := 280) C dL_law_280 ?_
  refine r_sld (pc := 281) C hX hbl hbA hL dL_law_281 (by omega) ?_
  refine r_aload_n (pc := 282) C 0 dL_law_282 rfl rfl ?_
  refine r_iload_n (pc := 283) C 3 dL_law_283 rfl rfl ?_
  refine r_iconst (pc := 284) C dL_law_284 ?_
  refine r_iadd (pc := 285) C dL_law_285 ?_
  refine r_sld (pc := 286) C hX hbl hbA hL dL_law_286 (by omega) ?_
  refine r_callV (pc := 287) (is := [5, 6, 7, 8, 9, 10, 11, 12, 13]) C YX9_open dL_law_287 tw_881 (c_X9_open l G _ _ _ _ _ (by first | exact xv_r _ _ | exact hr.it | exact hr.ir | exact hr.ix | exact hr.k | exact hr.ir.2.1 | exact hr.ir.2.2.2.1 | assumption | omega) (by first | exact xv_r _ _ | exact hr.it | exact hr.ir | exact hr.ix | exact hr.k | exact hr.ir.2.1 | exact hr.ir.2.2.2.1 | assumption | omega) (by first | exact xv_r _ _ | exact hr.it | exact hr.ir | exact hr.ix | exact hr.k | exact hr.ir.2.1 | exact hr.ir.2.2.2.1 | assumption | omega) (by first | exact xv_r _ _ | exact hr.it | exact hr.ir | exact hr.ix | exact hr.k | exact hr.ir.2.1 | exact hr.ir.2.2.2.1 | assumption | omega)) 5 0 rfl rfl (ci := 9) rfl rfl rfl (by decide) rfl rfl (Nat.le_of_ble_eq_true rfl) ⟨rfl, rfl, by decide, by decide⟩ (jst_i (W_u5_6_7_8_9_10_11_12_13 ..) ?_)
  refine r_same (pc := 290) (tgt := 934) C dL_law_290 (by decide) rfl ?_
  exact nx _ _ _ _ _ _ (rl_zif (qr_open _ _ _) hr (fun hq => hr.to (to_open hr.it hq) hr.k))

set_option maxRecDepth 100000 in
set_option maxHeartbeats 4000000 in
theorem lw_c_hawk {K : KT} {l : Launch} {G : GT} {a b : Nat → Nat} {b0 L : Nat} {xs : Nat → Int32} {i : Int} {X M P S R T : Tn} (C : Cf K l G cL_law RL (some .boolean) room_1) (hX : va_X b0 L xs (ks K) (ks K).heap) (hbl : b0 < (ks K).heap.size) (hbA : ¬ kA K b0) (hL : L ≤ 2560) (hi : 0 ≤ i ∧ i + 5 ≤ L) (hr : Rl X S R P T) (nx : ∀ X' M' P' S' R' T' : Tn, Rl X' S' R' P' T' → Wc K G 934 [some (.ref b0), some (.ref (a 0)), some (.ref (b 0)), some (.int (iI i))] [] (wW G a b X' T' M' P' S' R' T')) : Wc K G 295 [some (.ref b0), some (.ref (a 0)), some (.ref (b 0)), some (.int (iI i))] [] (wW G a b X T M P S R T) := by
  refine r_aload_n (pc := 295) C 1 dL_law_295 rfl rfl ?_
  refine r_aload_n (pc := 296) C 0 dL_law_296 rfl rfl ?_
  refine r_iload_n (pc := 297) C 3 dL_law_297 rfl rfl ?_
  refine r_iconst (pc := 298) C dL_law_298 ?_
  refine r_iadd (pc := 299) C dL_law_299 ?_
  refine r_sld (pc := 300) C hX hbl hbA hL dL_law_300 (by omega) ?_
  refine r_callV (pc := 301) (is := [0, 1, 2, 3, 4]) C YX8_hawk dL_law_301 tw_517 (c_X8_hawk l G _ _ _ _ _ _ _ (by first | exact xv_r _ _ | exact hr.it | exact hr.ir | exact hr.ix | exact hr.k | exact hr.ir.2.1 | exact hr.ir.2.2.2.1 | assumption | omega) (by first | exact xv_r _ _ | exact hr.it | exact hr.ir | exact hr.ix | exact hr.k | exact hr.ir.2.1 | exact hr.ir.2.2.2.1 | assumption | omega) (by first | exact xv_r _ _ | exact hr.it | exact hr.ir | exact hr.ix | exact hr.k | exact hr.ir.2.1 | exact hr.ir.2.2.2.1 | assumption | omega)) 0 0 rfl rfl (ci := 8) rfl rfl rfl (by decide) rfl rfl (Nat.le_of_ble_eq_true rfl) ⟨rfl, rfl, by decide, by decide⟩ (jst_i (W_u0_1_2_3_4 ..) ?_)
  refine r_aload_n (pc := 304) C 2 dL_law_304 rfl rfl ?_
  refine r_aload_n (pc := 305) C 0 dL_law_305 rfl rfl ?_
  refine r_iload_n (pc := 306) C 3 dL_law_306 rfl rfl ?_
  refine r_iconst (pc := 307) C dL_law_307 ?_
  refine r_iadd (pc := 308) C dL_law_308 ?_
  refine r_sld (pc := 309) C hX hbl hbA hL dL_law_309 (by omega) ?_
  refine r_callV (pc := 310) (is := [5, 6, 7, 8, 9, 10, 11, 12, 13]) C YX9_hawk dL_law_310 tw_885 (c_X9_hawk l G _ _ _ _ (by first | exact xv_r _ _ | exact hr.it | exact hr.ir | exact hr.ix | exact hr.k | exact hr.ir.2.1 | exact hr.ir.2.2.2.1 | assumption | omega) (by first | exact xv_r _ _ | exact hr.it | exact hr.ir | exact hr.ix | exact hr.k | exact hr.ir.2.1 | exact hr.ir.2.2.2.1 | assumption | omega) (by first | exact xv_r _ _ | exact hr.it | exact hr.ir | exact hr.ix | exact hr.k | exact hr.ir.2.1 | exact hr.ir.2.2.2.1 | assumption | omega)) 5 0 rfl rfl (ci := 9) rfl rfl rfl (by decide) rfl rfl (Nat.le_of_ble_eq_true rfl) ⟨rfl, rfl, by decide, by decide⟩ (jst_i (W_u5_6_7_8_9_10_11_12_13 ..) ?_)
  refine r_same (pc := 313) (tgt := 934) C dL_law_313 (by decide) rfl ?_
  exact nx _ _ _ _ _ _ (rl_zif (qr_out _ _ _) hr (fun hq => hr.to (IT_hawk hr.it (out_0 hq)) hr.k))

set_option maxRecDepth 100000 in
set_option maxHeartbeats 4000000 in
theorem lw_c_carry {K : KT} {l : Launch} {G : GT} {a b : Nat → Nat} {b0 L : Nat} {xs : Nat → Int32} {i : Int} {X M P S R T : Tn} (C : Cf K l G cL_law RL (some .boolean) room_1) (hX : va_X b0 L xs (ks K) (ks K).heap) (hbl : b0 < (ks K).heap.size) (hbA : ¬ kA K b0) (hL : L ≤ 2560) (hi : 0 ≤ i ∧ i + 5 ≤ L) (hr : Rl X S R P T) (nx : ∀ X' M' P' S' R' T' : Tn, Rl X' S' R' P' T' → Wc K G 934 [some (.ref b0), some (.ref (a 0)), some (.ref (b 0)), some (.int (iI i))] [] (wW G a b X' T' M' P' S' R' T')) : Wc K G 318 [some (.ref b0), some (.ref (a 0)), some (.ref (b 0)), some (.int (iI i))] [] (wW G a b X T M P S R T) := by
  refine r_aload_n (pc := 318) C 1 dL_law_318 rfl rfl ?_
  refine r_aload_n (pc := 319) C 0 dL_law_319 rfl rfl ?_
  refine r_iload_n (pc := 320) C 3 dL_law_320 rfl rfl ?_
  refine r_iconst (pc := 321) C dL_law_321 ?_
  refine r_iadd (pc := 322) C dL_law_322 ?_
  refine r_sld (pc := 323) C hX hbl hbA hL dL_law_323 (by omega) ?_
  refine r_aload_n (pc := 324) C 0 dL_law_324 rfl rfl ?_
  refine r_iload_n (pc := 325) C 3 dL_law_325 rfl rfl ?_
  refine r_iconst (pc := 326) C dL_law_326 ?_
  refine r_iadd (pc := 327) C dL_law_327 ?_
  refine r_sld (pc := 328) C hX hbl hbA hL dL_law_328 (by omega) ?_
  refine r_callV (pc := 329) (is := [0, 1, 2, 3, 4]) C YX8_carry dL_law_329 tw_521 (c_X8_carry l G _ _ _ _ _ _ _ _ (by first | exact xv_r _ _ | exact hr.it | exact hr.ir | exact hr.ix | exact hr.k | exact hr.ir.2.1 | exact hr.ir.2.2.2.1 | assumption | omega) (by first | exact xv_r _ _ | exact hr.it | exact hr.ir | exact hr.ix | exact hr.k | exact hr.ir.2.1 | exact hr.ir.2.2.2.1 | assumption | omega) (by first | exact xv_r _ _ | exact hr.it | exact hr.ir | exact hr.ix | exact hr.k | exact hr.ir.2.1 | exact hr.ir.2.2.2.1 | assumption | omega) (by first | exact xv_r _ _ | exact hr.it | exact hr.ir | exact hr.ix | exact hr.k | exact hr.ir.2.1 | exact hr.ir.2.2.2.1 | assumption | omega)) 0 0 rfl rfl (ci := 8) rfl rfl rfl (by decide) rfl rfl (Nat.le_of_ble_eq_true rfl) ⟨rfl, rfl, by decide, by decide⟩ (jst_i (W_u0_1_2_3_4 ..) ?_)
  refine r_aload_n (pc := 332) C 2 dL_law_332 rfl rfl ?_
  refine r_aload_n (pc := 333) C 0 dL_law_333 rfl rfl ?_
  refine r_iload_n (pc := 334) C 3 dL_law_334 rfl rfl ?_
  refine r_iconst (pc := 335) C dL_law_335 ?_
  refine r_iadd (pc := 336) C dL_law_336 ?_
  refine r_sld (pc := 337) C hX hbl hbA hL dL_law_337 (by omega) ?_
  refine r_aload_n (pc := 338) C 0 dL_law_338 rfl rfl ?_
  refine r_iload_n (pc := 339) C 3 dL_law_339 rfl rfl ?_
  refine r_iconst (pc := 340) C dL_law_340 ?_
  refine r_iadd (pc := 341) C dL_law_341 ?_
  refine r_sld (pc := 342) C hX hbl hbA hL dL_law_342 (by omega) ?_
  refine r_callV (pc := 343) (is := [5, 6, 7, 8, 9, 10, 11, 12, 13]) C YX9_carry dL_law_343 tw_889 (c_X9_carry l G _ _ _ _ _ (by first | exact xv_r _ _ | exact hr.it | exact hr.ir | exact hr.ix | exact hr.k | exact hr.ir.2.1 | exact hr.ir.2.2.2.1 | assumption | omega) (by first | exact xv_r _ _ | exact hr.it | exact hr.ir | exact hr.ix | exact hr.k | exact hr.ir.2.1 | exact hr.ir.2.2.2.1 | assumption | omega) (by first | exact xv_r _ _ | exact hr.it | exact hr.ir | exact hr.ix | exact hr.k | exact hr.ir.2.1 | exact hr.ir.2.2.2.1 | assumption | omega) (by first | exact xv_r _ _ | exact hr.it | exact hr.ir | exact hr.ix | exact hr.k | exact hr.ir.2.1 | exact hr.ir.2.2.2.1 | assumption | omega)) 5 0 rfl rfl (ci := 9) rfl rfl rfl (by decide) rfl rfl (Nat.le_of_ble_eq_true rfl) ⟨rfl, rfl, by decide, by decide⟩ (jst_i (W_u5_6_7_8_9_10_11_12_13 ..) ?_)
  refine r_same (pc := 346) (tgt := 934) C dL_law_346 (by decide) rfl ?_
  exact nx _ _ _ _ _ _ (rl_zif (qr_carry _ _ _) hr (fun hq => hr.to (to_carry hr.it hq) hr.k))

set_option maxRecDepth 100000 in
set_option maxHeartbeats 4000000 in
theorem lw_c_clip {K : KT} {l : Launch} {G : GT} {a b : Nat → Nat} {b0 L : Nat} {xs : Nat → Int32} {i : Int} {X M P S R T : Tn} (C : Cf K l G cL_law RL (some .boolean) room_1) (hX : va_X b0 L xs (ks K) (ks K).heap) (hbl : b0 < (ks K).heap.size) (hbA : ¬ kA K b0) (hL : L ≤ 2560) (hi : 0 ≤ i ∧ i + 5 ≤ L) (hr : Rl X S R P T) (nx : ∀ X' M' P' S' R' T' : Tn, Rl X' S' R' P' T' → Wc K G 934 [some (.ref b0), some (.ref (a 0)), some (.ref (b 0)), some (.int (iI i))] [] (wW G a b X' T' M' P' S' R' T')) : Wc K G 351 [some (.ref b0), some (.ref (a 0)), some (.ref (b 0)), some (.int (iI i))] [] (wW G a b X T M P S R T) := by
  refine r_aload_n (pc := 351) C 1 dL_law_351 rfl rfl ?_
  refine r_aload_n (pc := 352) C 0 dL_law_352 rfl rfl ?_
  refine r_iload_n (pc := 353) C 3 dL_law_353 rfl rfl ?_
  refine r_iconst (pc := 354) C dL_law_354 ?_
  refine r_iadd (pc := 355) C dL_law_355 ?_
  refine r_sld (pc := 356) C hX hbl hbA hL dL_law_356 (by omega) ?_
  refine r_aload_n (pc := 357) C 0 dL_law_357 rfl rfl ?_
  refine r_iload_n (pc := 358) C 3 dL_law_358 rfl rfl ?_
  refine r_iconst (pc := 359) C dL_law_359 ?_
  refine r_iadd (pc := 360) C dL_law_360 ?_
  refine r_sld (pc := 361) C hX hbl hbA hL dL_law_361 (by omega) ?_
  refine r_callV (pc := 362) (is := [0, 1, 2, 3, 4]) C YX8_clip dL_law_362 tw_526 (c_X8_clip l G _ _ _ _ _ _ _ _ (by first | exact xv_r _ _ | exact hr.it | exact hr.ir | exact hr.ix | exact hr.k | exact hr.ir.2.1 | exact hr.ir.2.2.2.1 | assumption | omega) (by first | exact xv_r _ _ | exact hr.it | exact hr.ir | exact hr.ix | exact hr.k | exact hr.ir.2.1 | exact hr.ir.2.2.2.1 | assumption | omega) (by first | exact xv_r _ _ | exact hr.it | exact hr.ir | exact hr.ix | exact hr.k | exact hr.ir.2.1 | exact hr.ir.2.2.2.1 | assumption | omega) (by first | exact xv_r _ _ | exact hr.it | exact hr.ir | exact hr.ix | exact hr.k | exact hr.ir.2.1 | exact hr.ir.2.2.2.1 | assumption | omega)) 0 0 rfl rfl (ci := 8) rfl rfl rfl (by decide) rfl rfl (Nat.le_of_ble_eq_true rfl) ⟨rfl, rfl, by decide, by decide⟩ (jst_i (W_u0_1_2_3_4 ..) ?_)
  refine r_aload_n (pc := 365) C 2 dL_law_365 rfl rfl ?_
  refine r_aload_n (pc := 366) C 0 dL_law_366 rfl rfl ?_
  refine r_iload_n (pc := 367) C 3 dL_law_367 rfl rfl ?_
  refine r_iconst (pc := 368) C dL_law_368 ?_
  refine r_iadd (pc := 369) C dL_law_369 ?_
  refine r_sld (pc := 370) C hX hbl hbA hL dL_law_370 (by omega) ?_
  refine r_aload_n (pc := 371) C 0 dL_law_371 rfl rfl ?_
  refine r_iload_n (pc := 372) C 3 dL_law_372 rfl rfl ?_
  refine r_iconst (pc := 373) C dL_law_373 ?_
  refine r_iadd (pc := 374) C dL_law_374 ?_
  refine r_sld (pc := 375) C hX hbl hbA hL dL_law_375 (by omega) ?_
  refine r_callV (pc := 376) (is := [5, 6, 7, 8, 9, 10, 11, 12, 13]) C YX9_clip dL_law_376 tw_897 (c_X9_clip l G _ _ _ _ _ (by first | exact xv_r _ _ | exact hr.it | exact hr.ir | exact hr.ix | exact hr.k | exact hr.ir.2.1 | exact hr.ir.2.2.2.1 | assumption | omega) (by first | exact xv_r _ _ | exact hr.it | exact hr.ir | exact hr.ix | exact hr.k | exact hr.ir.2.1 | exact hr.ir.2.2.2.1 | assumption | omega) (by first | exact xv_r _ _ | exact hr.it | exact hr.ir | exact hr.ix | exact hr.k | exact hr.ir.2.1 | exact hr.ir.2.2.2.1 | assumption | omega) (by first | exact xv_r _ _ | exact hr.it | exact hr.ir | exact hr.ix | exact hr.k | exact hr.ir.2.1 | exact hr.ir.2.2.2.1 | assumption | omega)) 5 0 rfl rfl (ci := 9) rfl rfl rfl (by decide) rfl rfl (Nat.le_of_ble_eq_true rfl) ⟨rfl, rfl, by decide, by decide⟩ (jst_i (W_u5_6_7_8_9_10_11_12_13 ..) ?_)
  refine r_same (pc := 379) (tgt := 934) C dL_law_379 (by decide) rfl ?_
  exact nx _ _ _ _ _ _ (rl_zif (qr_clip _ _ _) hr (fun hq => hr.to (to_clip hr.it hq) hr.k))

set_option maxRecDepth 100000 in
set_option maxHeartbeats 4000000 in
theorem lw_c_go {K : KT} {l : Launch} {G : GT} {a b : Nat → Nat} {b0 L : Nat} {xs : Nat → Int32} {i : Int} {X M P S R T : Tn} (C : Cf K l G cL_law RL (some .boolean) room_1) (hX : va_X b0 L xs (ks K) (ks K).heap) (hbl : b0 < (ks K).heap.size) (hbA : ¬ kA K b0) (hL : L ≤ 2560) (hi : 0 ≤ i ∧ i + 5 ≤ L) (hr : Rl X S R P T) (nx : ∀ X' M' P' S' R' T' : Tn, Rl X' S' R' P' T' → Wc K G 934 [some (.ref b0), some (.ref (a 0)), some (.ref (b 0)), some (.int (iI i))] [] (wW G a b X' T' M' P' S' R' T')) : Wc K G 384 [some (.ref b0), some (.ref (a 0)), some (.ref (b 0)), some (.int (iI i))] [] (wW G a b X T M P S R T) := by
  refine r_aload_n (pc := 384) C 1 dL_law_384 rfl rfl ?_
  refine r_aload_n (pc := 385) C 0 dL_law_385 rfl rfl ?_
  refine r_iload_n (pc := 386) C 3 dL_law_386 rfl rfl ?_
  refine r_iconst (pc := 387) C dL_law_387 ?_
  refine r_iadd (pc := 388) C dL_law_388 ?_
  refine r_sld (pc := 389) C hX hbl hbA hL dL_law_389 (by omega) ?_
  refine r_callV (pc := 390) (is := [0, 1, 2, 3, 4]) C YX8_go dL_law_390 tw_530 (c_X8_go l G _ _ _ _ _ _ _ (by first | exact xv_r _ _ | exact hr.it | exact hr.ir | exact hr.ix | exact hr.k | exact hr.ir.2.1 | exact hr.ir.2.2.2.1 | assumption | omega) (by first | exact xv_r _ _ | exact hr.it | exact hr.ir | exact hr.ix | exact hr.k | exact hr.ir.2.1 | exact hr.ir.2.2.2.1 | assumption | omega) (by first | exact xv_r _ _ | exact hr.it | exact hr.ir | exact hr.ix | exact hr.k | exact hr.ir.2.1 | exact hr.ir.2.2.2.1 | assumption | omega)) 0 0 rfl rfl (ci := 8) rfl rfl rfl (by decide) rfl rfl (Nat.le_of_ble_eq_true rfl) ⟨rfl, rfl, by decide, by decide⟩ (jst_i (W_u0_1_2_3_4 ..) ?_)
  refine r_aload_n (pc := 393) C 2 dL_law_393 rfl rfl ?_
  refine r_aload_n (pc := 394) C 0 dL_law_394 rfl rfl ?_
  refine r_iload_n (pc := 395) C 3 dL_law_395 rfl rfl ?_
  refine r_iconst (pc := 396) C dL_law_396 ?_
  refine r_iadd (pc := 397) C dL_law_397 ?_
  refine r_sld (pc := 398) C hX hbl hbA hL dL_law_398 (by omega) ?_
  refine r_callV (pc := 399) (is := [5, 6, 7, 8, 9, 10, 11, 12, 13]) C YX9_go dL_law_399 tw_901 (c_X9_go l G _ _ _ _ (by first | exact xv_r _ _ | exact hr.it | exact hr.ir | exact hr.ix | exact hr.k | exact hr.ir.2.1 | exact hr.ir.2.2.2.1 | assumption | omega) (by first | exact xv_r _ _ | exact hr.it | exact hr.ir | exact hr.ix | exact hr.k | exact hr.ir.2.1 | exact hr.ir.2.2.2.1 | assumption | omega) (by first | exact xv_r _ _ | exact hr.it | exact hr.ir | exact hr.ix | exact hr.k | exact hr.ir.2.1 | exact hr.ir.2.2.2.1 | assumption | omega)) 5 0 rfl rfl (ci := 9) rfl rfl rfl (by decide) rfl rfl (Nat.le_of_ble_eq_true rfl) ⟨rfl, rfl, by decide, by decide⟩ (jst_i (W_u5_6_7_8_9_10_11_12_13 ..) ?_)
  refine r_same (pc := 402) (tgt := 934) C dL_law_402 (by decide) rfl ?_
  exact nx _ _ _ _ _ _ (rl_zif (qr_go _ _) hr (fun hq => hr.to (to_go hr.it hq).1 (by rw [(to_go hr.it hq).2]; exact hr.k)))

set_option maxRecDepth 100000 in
set_option maxHeartbeats 4000000 in
theorem lw_c_dusk {K : KT} {l : Launch} {G : GT} {a b : Nat → Nat} {b0 L : Nat} {xs : Nat → Int32} {i : Int} {X M P S R T : Tn} (C : Cf K l G cL_law RL (some .boolean) room_1) (hX : va_X b0 L xs (ks K) (ks K).heap) (hbl : b0 < (ks K).heap.size) (hbA : ¬ kA K b0) (hL : L ≤ 2560) (hi : 0 ≤ i ∧ i + 5 ≤ L) (hr : Rl X S R P T) (nx : ∀ X' M' P' S' R' T' : Tn, Rl X' S' R' P' T' → Wc K G 934 [some (.ref b0), some (.ref (a 0)), some (.ref (b 0)), some (.int (iI i))] [] (wW G a b X' T' M' P' S' R' T')) : Wc K G 407 [some (.ref b0), some (.ref (a 0)), some (.ref (b 0)), some (.int (iI i))] [] (wW G a b X T M P S R T) := by
  refine r_aload_n (pc := 407) C 1 dL_law_407 rfl rfl ?_
  refine r_callV (pc := 408) (is := [0, 1, 2, 3, 4]) C YX8_dusk dL_law_408 tw_539 (c_X8_dusk l G _ _ _ _ _ _ (by first | exact xv_r _ _ | exact hr.it | exact hr.ir | exact hr.ix | exact hr.k | exact hr.ir.2.1 | exact hr.ir.2.2.2.1 | assumption | omega) (by first | exact xv_r _ _ | exact hr.it | exact hr.ir | exact hr.ix | exact hr.k | exact hr.ir.2.1 | exact hr.ir.2.2.2.1 | assumption | omega) (by first | exact xv_r _ _ | exact hr.it | exact hr.ir | exact hr.ix | exact hr.k | exact hr.ir.2.1 | exact hr.ir.2.2.2.1 | assumption | omega)) 0 0 rfl rfl (ci := 8) rfl rfl rfl (by decide) rfl rfl (Nat.le_of_ble_eq_true rfl) ⟨rfl, rfl, by decide, by decide⟩ (jst_i (W_u0_1_2_3_4 ..) ?_)
  refine r_aload_n (pc := 411) C 2 dL_law_411 rfl rfl ?_
  refine r_callV (pc := 412) (is := [5, 6, 7, 8, 9, 10, 11, 12, 13]) C YX9_dusk dL_law_412 tw_909 (c_X9_dusk l G _ _ _ (by first | exact xv_r _ _ | exact hr.it | exact hr.ir | exact hr.ix | exact hr.k | exact hr.ir.2.1 | exact hr.ir.2.2.2.1 | assumption | omega) (by first | exact xv_r _ _ | exact hr.it | exact hr.ir | exact hr.ix | exact hr.k | exact hr.ir.2.1 | exact hr.ir.2.2.2.1 | assumption | omega) (by first | exact xv_r _ _ | exact hr.it | exact hr.ir | exact hr.ix | exact hr.k | exact hr.ir.2.1 | exact hr.ir.2.2.2.1 | assumption | omega)) 5 0 rfl rfl (ci := 9) rfl rfl rfl (by decide) rfl rfl (Nat.le_of_ble_eq_true rfl) ⟨rfl, rfl, by decide, by decide⟩ (jst_i (W_u5_6_7_8_9_10_11_12_13 ..) ?_)
  refine r_same (pc := 415) (tgt := 934) C dL_law_415 (by decide) rfl ?_
  exact nx _ _ _ _ _ _ (rl_zif (qr_dusk _) hr (fun hq => hr.to (to_dusk hr.it hr.k hq).1 (to_dusk hr.it hr.k hq).2))

set_option maxRecDepth 100000 in
set_option maxHeartbeats 4000000 in
theorem lw_c_way {K : KT} {l : Launch} {G : GT} {a b : Nat → Nat} {b0 L : Nat} {xs : Nat → Int32} {i : Int} {X M P S R T : Tn} (C : Cf K l G cL_law RL (some .boolean) room_1) (hX : va_X b0 L xs (ks K) (ks K).heap) (hbl : b0 < (ks K).heap.size) (hbA : ¬ kA K b0) (hL : L ≤ 2560) (hi : 0 ≤ i ∧ i + 5 ≤ L) (hr : Rl X S R P T) (nx : ∀ X' M' P' S' R' T' : Tn, Rl X' S' R' P' T' → Wc K G 934 [some (.ref b0), some (.ref (a 0)), some (.ref (b 0)), some (.int (iI i))] [] (wW G a b X' T' M' P' S' R' T')) : Wc K G 420 [some (.ref b0), some (.ref (a 0)), some (.ref (b 0)), some (.int (iI i))] [] (wW G a b X T M P S R T) := by
  refine r_aload_n (pc := 420) C 1 dL_law_420 rfl rfl ?_
  refine r_aload_n (pc := 421) C 0 dL_law_421 rfl rfl ?_
  refine r_iload_n (pc := 422) C 3 dL_law_422 rfl rfl ?_
  refine r_iconst (pc := 423) C dL_law_423 ?_
  refine r_iadd (pc := 424) C dL_law_424 ?_
  refine r_sld (pc := 425) C hX hbl hbA hL dL_law_425 (by omega) ?_
  refine r_aload_n (pc := 426) C 0 dL_law_426 rfl rfl ?_
  refine r_iload_n (pc := 427) C 3 dL_law_427 rfl rfl ?_
  refine r_iconst (pc := 428) C dL_law_428 ?_
  refine r_iadd (pc := 429) C dL_law_429 ?_
  refine r_sld (pc := 430) C hX hbl hbA hL dL_law_430 (by omega) ?_
  refine r_callV (pc := 431) (is := [0, 1, 2, 3, 4]) C YX8_way dL_law_431 tw_586 (c_X8_way l G _ _ _ _ _ _ _ _ (by first | exact xv_r _ _ | exact hr.it | exact hr.ir | exact hr.ix | exact hr.k | exact hr.ir.2.1 | exact hr.ir.2.2.2.1 | assumption | omega) (by first | exact xv_r _ _ | exact hr.it | exact hr.ir | exact hr.ix | exact hr.k | exact hr.ir.2.1 | exact hr.ir.2.2.2.1 | assumption | omega) (by first | exact xv_r _ _ | exact hr.it | exact hr.ir | exact hr.ix | exact hr.k | exact hr.ir.2.1 | exact hr.ir.2.2.2.1 | assumption | omega) (by first | exact xv_r _ _ | exact hr.it | exact hr.ir | exact hr.ix | exact hr.k | exact hr.ir.2.1 | exact hr.ir.2.2.2.1 | assumption | omega)) 0 0 rfl rfl (ci := 8) rfl rfl rfl (by decide) rfl rfl (Nat.le_of_ble_eq_true rfl) ⟨rfl, rfl, by decide, by decide⟩ (jst_i (W_u0_1_2_3_4 ..) ?_)
  refine r_aload_n (pc := 434) C 2 dL_law_434 rfl rfl ?_
  refine r_aload_n (pc := 435) C 0 dL_law_435 rfl rfl ?_
  refine r_iload_n (pc := 436) C 3 dL_law_436 rfl rfl ?_
  refine r_iconst (pc := 437) C dL_law_437 ?_
  refine r_iadd (pc := 438) C dL_law_438 ?_
  refine r_sld (pc := 439) C hX hbl hbA hL dL_law_439 (by omega) ?_
  refine r_aload_n (pc := 440) C 0 dL_law_440 rfl rfl ?_
  refine r_iload_n (pc := 441) C 3 dL_law_441 rfl rfl ?_
  refine r_iconst (pc := 442) C dL_law_442 ?_
  refine r_iadd (pc := 443) C dL_law_443 ?_
  refine r_sld (pc := 444) C hX hbl hbA hL dL_law_444 (by omega) ?_
  refine r_callV (pc := 445) (is := [5, 6, 7, 8, 9, 10, 11, 12, 13]) C YX9_way dL_law_445 tw_925 (c_X9_way l G _ _ _ _ _ (by first | exact xv_r _ _ | exact hr.it | exact hr.ir | exact hr.ix | exact hr.k | exact hr.ir.2.1 | exact hr.ir.2.2.2.1 | assumption | omega) (by first | exact xv_r _ _ | exact hr.it | exact hr.ir | exact hr.ix | exact hr.k | exact hr.ir.2.1 | exact hr.ir.2.2.2.1 | assumption | omega) (by first | exact xv_r _ _ | exact hr.it | exact hr.ir | exact hr.ix | exact hr.k | exact hr.ir.2.1 | exact hr.ir.2.2.2.1 | assumption | omega) (by first | exact xv_r _ _ | exact hr.it | exact hr.ir | exact hr.ix | exact hr.k | exact hr.ir.2.1 | exact hr.ir.2.2.2.1 | assumption | omega)) 5 0 rfl rfl (ci := 9) rfl rfl rfl (by decide) rfl rfl (Nat.le_of_ble_eq_true rfl) ⟨rfl, rfl, by decide, by decide⟩ (jst_i (W_u5_6_7_8_9_10_11_12_13 ..) ?_)
  refine r_same (pc := 448) (tgt := 934) C dL_law_448 (by decide) rfl ?_
  exact nx _ _ _ _ _ _ (rl_zif (qr_way _ _ _) hr (fun _ => hr))

set_option maxRecDepth 100000 in
set_option maxHeartbeats 4000000 in
theorem lw_c_purse {K : KT} {l : Launch} {G : GT} {a b : Nat → Nat} {b0 L : Nat} {xs : Nat → Int32} {i : Int} {X M P S R T : Tn} (C : Cf K l G cL_law RL (some .boolean) room_1) (hX : va_X b0 L xs (ks K) (ks K).heap) (hbl : b0 < (ks K).heap.size) (hbA : ¬ kA K b0) (hL : L ≤ 2560) (hi : 0 ≤ i ∧ i + 5 ≤ L) (hr : Rl X S R P T) (nx : ∀ X' M' P' S' R' T' : Tn, Rl X' S' R' P' T' → Wc K G 934 [some (.ref b0), some (.ref (a 0)), some (.ref (b 0)), some (.int (iI i))] [] (wW G a b X' T' M' P' S' R' T')) : Wc K G 453 [some (.ref b0), some (.ref (a 0)), some (.ref (b 0)), some (.int (iI i))] [] (wW G a b X T M P S R T) := by
  refine r_aload_n (pc := 453) C 1 dL_law_453 rfl rfl ?_
  refine r_aload_n (pc := 454) C 0 dL_law_454 rfl rfl ?_
  refine r_iload_n (pc := 455) C 3 dL_law_455 rfl rfl ?_
  refine r_iconst (pc := 456) C dL_law_456 ?_
  refine r_iadd (pc := 457) C dL_law_457 ?_
  refine r_sld (pc := 458) C hX hbl hbA hL dL_law_458 (by omega) ?_
  refine r_aload_n (pc := 459) C 0 dL_law_459 rfl rfl ?_
  refine r_iload_n (pc := 460) C 3 dL_law_460 rfl rfl ?_
  refine r_iconst (pc := 461) C dL_law_461 ?_
  refine r_iadd (pc := 462) C dL_law_462 ?_
  refine r_sld (pc := 463) C hX hbl hbA hL dL_law_463 (by omega) ?_
  refine r_callV (pc := 464) (is := [0, 1, 2, 3, 4]) C YX8_purse dL_law_464 tw_591 (c_X8_purse l G _ _ _ _ _ _ _ _ (by first | exact xv_r _ _ | exact hr.it | exact hr.ir | exact hr.ix | exact hr.k | exact hr.ir.2.1 | exact hr.ir.2.2.2.1 | assumption | omega) (by first | exact xv_r _ _ | exact hr.it | exact hr.ir | exact hr.ix | exact hr.k | exact hr.ir.2.1 | exact hr.ir.2.2.2.1 | assumption | omega) (by first | exact xv_r _ _ | exact hr.it | exact hr.ir | exact hr.ix | exact hr.k | exact hr.ir.2.1 | exact hr.ir.2.2.2.1 | assumption | omega) (by first | exact xv_r _ _ | exact hr.it | exact hr.ir | exact hr.ix | exact hr.k | exact hr.ir.2.1 | exact hr.ir.2.2.2.1 | assumption | omega) (by first | exact xv_r _ _ | exact hr.it | exact hr.ir | exact hr.ix | exact hr.k | exact hr.ir.2.1 | exact hr.ir.2.2.2.1 | assumption | omega)) 0 0 rfl rfl (ci := 8) rfl rfl rfl (by decide) rfl rfl (Nat.le_of_ble_eq_true rfl) ⟨rfl, rfl, by decide, by decide⟩ (jst_i (W_u0_1_2_3_4 ..) ?_)
  refine r_aload_n (pc := 467) C 2 dL_law_467 rfl rfl ?_
  refine r_aload_n (pc := 468) C 0 dL_law_468 rfl rfl ?_
  refine r_iload_n (pc := 469) C 3 dL_law_469 rfl rfl ?_
  refine r_iconst (pc := 470) C dL_law_470 ?_
  refine r_iadd (pc := 471) C dL_law_471 ?_
  refine r_sld (pc := 472) C hX hbl hbA hL dL_law_472 (by omega) ?_
  refine r_aload_n (pc := 473) C 0 dL_law_473 rfl rfl ?_
  refine r_iload_n (pc := 474) C 3 dL_law_474 rfl rfl ?_
  refine r_iconst (pc := 475) C dL_law_475 ?_
  refine r_iadd (pc := 476) C dL_law_476 ?_
  refine r_sld (pc := 477) C hX hbl hbA hL dL_law_477 (by omega) ?_
  refine r_callV (pc := 478) (is := [5, 6, 7, 8, 9, 10, 11, 12, 13]) C YX9_purse dL_law_478 tw_929 (c_X9_purse l G _ _ _ _ _ (by first | exact xv_r _ _ | exact hr.it | exact hr.ir | exact hr.ix | exact hr.k | exact hr.ir.2.1 | exact hr.ir.2.2.2.1 | assumption | omega) (by first | exact xv_r _ _ | exact hr.it | exact hr.ir | exact hr.ix | exact hr.k | exact hr.ir.2.1 | exact hr.ir.2.2.2.1 | assumption | omega) (by first | exact xv_r _ _ | exact hr.it | exact hr.ir | exact hr.ix | exact hr.k | exact hr.ir.2.1 | exact hr.ir.2.2.2.1 | assumption | omega) (by first | exact xv_r _ _ | exact hr.it | exact hr.ir | exact hr.ix | exact hr.k | exact hr.ir.2.1 | exact hr.ir.2.2.2.1 | assumption | omega) (by first | exact xv_r _ _ | exact hr.it | exact hr.ir | exact hr.ix | exact hr.k | exact hr.ir.2.1 | exact hr.ir.2.2.2.1 | assumption | omega)) 5 0 rfl rfl (ci := 9) rfl rfl rfl (by decide) rfl rfl (Nat.le_of_ble_eq_true rfl) ⟨rfl, rfl, by decide, by decide⟩ (jst_i (W_u5_6_7_8_9_10_11_12_13 ..) ?_)
  refine r_same (pc := 481) (tgt := 934) C dL_law_481 (by decide) rfl ?_
  exact nx _ _ _ _ _ _ (rl_zif (qr_lo _ _ _ _ _) hr (fun _ => rl_r5 hr))

set_option maxRecDepth 100000 in
set_option maxHeartbeats 4000000 in
theorem lw_c_letting {K : KT} {l : Launch} {G : GT} {a b : Nat → Nat} {b0 L : Nat} {xs : Nat → Int32} {i : Int} {X M P S R T : Tn} (C : Cf K l G cL_law RL (some .boolean) room_1) (hX : va_X b0 L xs (ks K) (ks K).heap) (hbl : b0 < (ks K).heap.size) (hbA : ¬ kA K b0) (hL : L ≤ 2560) (hi : 0 ≤ i ∧ i + 5 ≤ L) (hr : Rl X S R P T) (nx : ∀ X' M' P' S' R' T' : Tn, Rl X' S' R' P' T' → Wc K G 934 [some (.ref b0), some (.ref (a 0)), some (.ref (b 0)), some (.int (iI i))] [] (wW G a b X' T' M' P' S' R' T')) : Wc K G 486 [some (.ref b0), some (.ref (a 0)), some (.ref (b 0)), some (.int (iI i))] [] (wW G a b X T M P S R T) := by
  have hfk : (0 ≤ (xv xs (i + 1)) ∧ (xv xs (i + 1)) < T 0 0) ∨ ¬ (0 ≤ (xv xs (i + 1)) ∧ (xv xs (i + 1)) < T 0 0) := Classical.em _
  rcases hfk with kk0 | kk1
  · skip
    refine r_aload_n (pc := 486) C 1 dL_law_486 rfl rfl ?_
    refine r_aload_n (pc := 487) C 0 dL_law_487 rfl rfl ?_
    refine r_iload_n (pc := 488) C 3 dL_law_488 rfl rfl ?_
    refine r_iconst (pc := 489) C dL_law_489 ?_
    refine r_iadd (pc := 490) C dL_law_490 ?_
    refine r_sld (pc := 491) C hX hbl hbA hL dL_law_491 (by omega) ?_
    refine r_callV (pc := 492) (is := [0, 1, 2, 3, 4]) C YX8_letting dL_law_492 tw_600 (c_X8_letting l G _ _ _ _ _ _ _ (by first | exact xv_r _ _ | exact hr.it | exact hr.ir | exact hr.ix | exact hr.k | exact hr.ir.2.1 | exact hr.ir.2.2.2.1 | assumption | omega) (by first | exact xv_r _ _ | exact hr.it | exact hr.ir | exact hr.ix | exact hr.k | exact hr.ir.2.1 | exact hr.ir.2.2.2.1 | assumption | omega) (by first | exact xv_r _ _ | exact hr.it | exact hr.ir | exact hr.ix | exact hr.k | exact hr.ir.2.1 | exact hr.ir.2.2.2.1 | assumption | omega) (by first | exact xv_r _ _ | exact hr.it | exact hr.ir | exact hr.ix | exact hr.k | exact hr.ir.2.1 | exact hr.ir.2.2.2.1 | assumption | omega)) 0 0 rfl rfl (ci := 8) rfl rfl rfl (by decide) rfl rfl (Nat.le_of_ble_eq_true rfl) ⟨rfl, rfl, by decide, by decide⟩ ?_
    refine fun o g hq0 _ => ?_
    unfold aLettC at hq0
    rw [if_pos kk0] at hq0
    obtain ⟨rfl, M1, rfl⟩ := hq0
    show Wc K G _ _ (.int (iI (sPurse (sLet T (T 0 1)) (xv xs (i + 1)) (T 0 1) - sPurse T (xv xs (i + 1)) (T 0 1))) :: _) (wW G a b X T M1 P S R T)
    refine r_aload_n (pc := 495) C 2 dL_law_495 rfl rfl ?_
    refine r_aload_n (pc := 496) C 0 dL_law_496 rfl rfl ?_
    refine r_iload_n (pc := 497) C 3 dL_law_497 rfl rfl ?_
    refine r_iconst (pc := 498) C dL_law_498 ?_
    refine r_iadd (pc := 499) C dL_law_499 ?_
    refine r_sld (pc := 500) C hX hbl hbA hL dL_law_500 (by omega) ?_
    refine r_callV (pc := 501) (is := [5, 6, 7, 8, 9, 10, 11, 12, 13]) C YX9_letting dL_law_501 tw_945 (c_X9_letting l G _ _ _ _ (by first | exact xv_r _ _ | exact hr.it | exact hr.ir | exact hr.ix | exact hr.k | exact hr.ir.2.1 | exact hr.ir.2.2.2.1 | assumption | omega) (by first | exact xv_r _ _ | exact hr.it | exact hr.ir | exact hr.ix | exact hr.k | exact hr.ir.2.1 | exact hr.ir.2.2.2.1 | assumption | omega) (by first | exact xv_r _ _ | exact hr.it | exact hr.ir | exact hr.ix | exact hr.k | exact hr.ir.2.1 | exact hr.ir.2.2.2.1 | assumption | omega) (by first | exact xv_r _ _ | exact hr.it | exact hr.ir | exact hr.ix | exact hr.k | exact hr.ir.2.1 | exact hr.ir.2.2.2.1 | assumption | omega)) 5 0 rfl rfl (ci := 9) rfl rfl rfl (by decide) rfl rfl (Nat.le_of_ble_eq_true rfl) ⟨rfl, rfl, by decide, by decide⟩ ?_
    refine fun o g hq0 _ => ?_
    unfold aLett at hq0
    rw [if_pos kk0] at hq0
    obtain ⟨rfl, rfl⟩ := hq0
    show Wc K G _ _ (.int (iI (sPurse (sLet T (T 0 1)) (xv xs (i + 1)) (T 0 1) - sPurse T (xv xs (i + 1)) (T 0 1))) :: _) (wW G a b X T M1 P S (up1 R 5 (flat T)) T)
    refine r_same (pc := 504) (tgt := 934) C dL_law_504 (by decide) rfl ?_
    first | exact nx _ _ _ _ _ _ (rl_r5 hr) | exact nx _ _ _ _ _ _ (rl_ref (by decide) hr)
  · skip
    refine r_aload_n (pc := 486) C 1 dL_law_486 rfl rfl ?_
    refine r_aload_n (pc := 487) C 0 dL_law_487 rfl rfl ?_
    refine r_iload_n (pc := 488) C 3 dL_law_488 rfl rfl ?_
    refine r_iconst (pc := 489) C dL_law_489 ?_
    refine r_iadd (pc := 490) C dL_law_490 ?_
    refine r_sld (pc := 491) C hX hbl hbA hL dL_law_491 (by omega) ?_
    refine r_callV (pc := 492) (is := [0, 1, 2, 3, 4]) C YX8_letting dL_law_492 tw_600 (c_X8_letting l G _ _ _ _ _ _ _ (by first | exact xv_r _ _ | exact hr.it | exact hr.ir | exact hr.ix | exact hr.k | exact hr.ir.2.1 | exact hr.ir.2.2.2.1 | assumption | omega) (by first | exact xv_r _ _ | exact hr.it | exact hr.ir | exact hr.ix | exact hr.k | exact hr.ir.2.1 | exact hr.ir.2.2.2.1 | assumption | omega) (by first | exact xv_r _ _ | exact hr.it | exact hr.ir | exact hr.ix | exact hr.k | exact hr.ir.2.1 | exact hr.ir.2.2.2.1 | assumption | omega) (by first | exact xv_r _ _ | exact hr.it | exact hr.ir | exact hr.ix | exact hr.k | exact hr.ir.2.1 | exact hr.ir.2.2.2.1 | assumption | omega)) 0 0 rfl rfl (ci := 8) rfl rfl rfl (by decide) rfl rfl (Nat.le_of_ble_eq_true rfl) ⟨rfl, rfl, by decide, by decide⟩ ?_
    refine fun o g hq0 _ => ?_
    unfold aLettC at hq0
    rw [if_neg kk1] at hq0
    obtain ⟨rfl, rfl⟩ := hq0
    show Wc K G _ _ (.int (iI 1000000001) :: _) (wW G a b (xrf X (-1)) T M P S R T)
    refine r_aload_n (pc := 495) C 2 dL_law_495 rfl rfl ?_
    refine r_aload_n (pc := 496) C 0 dL_law_496 rfl rfl ?_
    refine r_iload_n (pc := 497) C 3 dL_law_497 rfl rfl ?_
    refine r_iconst (pc := 498) C dL_law_498 ?_
    refine r_iadd (pc := 499) C dL_law_499 ?_
    refine r_sld (pc := 500) C hX hbl hbA hL dL_law_500 (by omega) ?_
    refine r_callV (pc := 501) (is := [5, 6, 7, 8, 9, 10, 11, 12, 13]) C YX9_letting dL_law_501 tw_945 (c_X9_letting l G _ _ _ _ (by first | exact xv_r _ _ | exact hr.it | exact hr.ir | exact hr.ix | exact hr.k | exact hr.ir.2.1 | exact hr.ir.2.2.2.1 | assumption | omega) (by first | exact xv_r _ _ | exact hr.it | exact hr.ir | exact hr.ix | exact hr.k | exact hr.ir.2.1 | exact hr.ir.2.2.2.1 | assumption | omega) (by first | exact xv_r _ _ | exact hr.it | exact hr.ir | exact hr.ix | exact hr.k | exact hr.ir.2.1 | exact hr.ir.2.2.2.1 | assumption | omega) (by first | exact xv_r _ _ | exact hr.it | exact hr.ir | exact hr.ix | exact hr.k | exact hr.ir.2.1 | exact hr.ir.2.2.2.1 | assumption | omega)) 5 0 rfl rfl (ci := 9) rfl rfl rfl (by decide) rfl rfl (Nat.le_of_ble_eq_true rfl) ⟨rfl, rfl, by decide, by decide⟩ ?_
    refine fun o g hq0 _ => ?_
    unfold aLett at hq0
    rw [if_neg kk1] at hq0
    obtain ⟨rfl, rfl⟩ := hq0
    show Wc K G _ _ (.int (iI 1000000001) :: _) (wW G a b (xrf X (-1)) T M P S (rfs R (-1)) T)
    refine r_same (pc := 504) (tgt := 934) C dL_law_504 (by decide) rfl ?_
    first | exact nx _ _ _ _ _ _ (rl_r5 hr) | exact nx _ _ _ _ _ _ (rl_ref (by decide) hr)

set_option maxRecDepth 100000 in
set_option maxHeartbeats 4000000 in
theorem lw_c_stays {K : KT} {l : Launch} {G : GT} {a b : Nat → Nat} {b0 L : Nat} {xs : Nat → Int32} {i : Int} {X M P S R T : Tn} (C : Cf K l G cL_law RL (some .boolean) room_1) (hX : va_X b0 L xs (ks K) (ks K).heap) (hbl : b0 < (ks K).heap.size) (hbA : ¬ kA K b0) (hL : L ≤ 2560) (hi : 0 ≤ i ∧ i + 5 ≤ L) (hr : Rl X S R P T) (nx : ∀ X' M' P' S' R' T' : Tn, Rl X' S' R' P' T' → Wc K G 934 [some (.ref b0), some (.ref (a 0)), some (.ref (b 0)), some (.int (iI i))] [] (wW G a b X' T' M' P' S' R' T')) : Wc K G 509 [some (.ref b0), some (.ref (a 0)), some (.ref (b 0)), some (.int (iI i))] [] (wW G a b X T M P S R T) := by
  refine r_aload_n (pc := 509) C 1 dL_law_509 rfl rfl ?_
  refine r_aload_n (pc := 510) C 0 dL_law_510 rfl rfl ?_
  refine r_iload_n (pc := 511) C 3 dL_law_511 rfl rfl ?_
  refine r_iconst (pc := 512) C dL_law_512 ?_
  refine r_iadd (pc := 513) C dL_law_513 ?_
  refine r_sld (pc := 514) C hX hbl hbA hL dL_law_514 (by omega) ?_
  refine r_aload_n (pc := 515) C 0 dL_law_515 rfl rfl ?_
  refine r_iload_n (pc := 516) C 3 dL_law_516 rfl rfl ?_
  refine r_iconst (pc := 517) C dL_law_517 ?_
  refine r_iadd (pc := 518) C dL_law_518 ?_
  refine r_sld (pc := 519) C hX hbl hbA hL dL_law_519 (by omega) ?_
  refine r_aload_n (pc := 520) C 0 dL_law_520 rfl rfl ?_
  refine r_iload_n (pc := 521) C 3 dL_law_521 rfl rfl ?_
  refine r_iconst (pc := 522) C dL_law_522 ?_
  refine r_iadd (pc := 523) C dL_law_523 ?_
  refine r_sld (pc := 524) C hX hbl hbA hL dL_law_524 (by omega) ?_
  refine r_callV (pc := 525) (is := [0, 1, 2, 3, 4]) C YX8_stays dL_law_525 tw_610 (c_X8_stays l G _ _ _ _ _ _ _ _ _ (by first | exact xv_r _ _ | exact hr.it | exact hr.ir | exact hr.ix | exact hr.k | exact hr.ir.2.1 | exact hr.ir.2.2.2.1 | assumption | omega) (by first | exact xv_r _ _ | exact hr.it | exact hr.ir | exact hr.ix | exact hr.k | exact hr.ir.2.1 | exact hr.ir.2.2.2.1 | assumption | omega) (by first | exact xv_r _ _ | exact hr.it | exact hr.ir | exact hr.ix | exact hr.k | exact hr.ir.2.1 | exact hr.ir.2.2.2.1 | assumption | omega) (by first | exact xv_r _ _ | exact hr.it | exact hr.ir | exact hr.ix | exact hr.k | exact hr.ir.2.1 | exact hr.ir.2.2.2.1 | assumption | omega) (by first | exact xv_r _ _ | exact hr.it | exact hr.ir | exact hr.ix | exact hr.k | exact hr.ir.2.1 | exact hr.ir.2.2.2.1 | assumption | omega) (by first | exact xv_r _ _ | exact hr.it | exact hr.ir | exact hr.ix | exact hr.k | exact hr.ir.2.1 | exact hr.ir.2.2.2.1 | assumption | omega)) 0 0 rfl rfl (ci := 8) rfl rfl rfl (by decide) rfl rfl (Nat.le_of_ble_eq_true rfl) ⟨rfl, rfl, by decide, by decide⟩ ?_
  refine fun o g hq0 _ => ?_
  obtain ⟨rfl, M1, F2, F3, rfl⟩ := hq0
  show Wc K G _ _ (.int (iI (zans (q_stays T (xv xs (i + 1)) (xv xs (i + 2)) (xv xs (i + 3))) (v_stay T (xv xs (i + 1)) (xv xs (i + 2)) (xv xs (i + 3))))) :: _) (wW G a b (up1 (up1 (zif (q_stays T (xv xs (i + 1)) (xv xs (i + 2)) (xv xs (i + 3))) X (xrf X (q_stays T (xv xs (i + 1)) (xv xs (i + 2)) (xv xs (i + 3))))) 2 F2) 3 F3) (zif (q_stays T (xv xs (i + 1)) (xv xs (i + 2)) (xv xs (i + 3))) T T) M1 P S R T)
  refine r_aload_n (pc := 528) C 2 dL_law_528 rfl rfl ?_
  refine r_aload_n (pc := 529) C 0 dL_law_529 rfl rfl ?_
  refine r_iload_n (pc := 530) C 3 dL_law_530 rfl rfl ?_
  refine r_iconst (pc := 531) C dL_law_531 ?_
  refine r_iadd (pc := 532) C dL_law_532 ?_
  refine r_sld (pc := 533) C hX hbl hbA hL dL_law_533 (by omega) ?_
  refine r_aload_n (pc := 534) C 0 dL_law_534 rfl rfl ?_
  refine r_iload_n (pc := 535) C 3 dL_law_535 rfl rfl ?_
  refine r_iconst (pc := 536) C dL_law_536 ?_
  refine r_iadd (pc := 537) C dL_law_537 ?_
  refine r_sld (pc := 538) C hX hbl hbA hL dL_law_538 (by omega) ?_
  refine r_aload_n (pc := 539) C 0 dL_law_539 rfl rfl ?_
  refine r_iload_n (pc := 540) C 3 dL_law_540 rfl rfl ?_
  refine r_iconst (pc := 541) C dL_law_541 ?_
  refine r_iadd (pc := 542) C dL_law_542 ?_
  refine r_sld (pc := 543) C hX hbl hbA hL dL_law_543 (by omega) ?_
  refine r_callV (pc := 544) (is := [5, 6, 7, 8, 9, 10, 11, 12, 13]) C YX9_stays dL_law_544 tw_950 (c_X9_stays l G _ _ _ _ _ _ (by first | exact xv_r _ _ | exact hr.it | exact hr.ir | exact hr.ix | exact hr.k | exact hr.ir.2.1 | exact hr.ir.2.2.2.1 | assumption | omega) (by first | exact xv_r _ _ | exact hr.it | exact hr.ir | exact hr.ix | exact hr.k | exact hr.ir.2.1 | exact hr.ir.2.2.2.1 | assumption | omega) (by first | exact xv_r _ _ | exact hr.it | exact hr.ir | exact hr.ix | exact hr.k | exact hr.ir.2.1 | exact hr.ir.2.2.2.1 | assumption | omega) (by first | exact xv_r _ _ | exact hr.it | exact hr.ir | exact hr.ix | exact hr.k | exact hr.ir.2.1 | exact hr.ir.2.2.2.1 | assumption | omega) (by first | exact xv_r _ _ | exact hr.it | exact hr.ir | exact hr.ix | exact hr.k | exact hr.ir.2.1 | exact hr.ir.2.2.2.1 | assumption | omega) (by first | exact xv_r _ _ | exact hr.it | exact hr.ir | exact hr.ix | exact hr.k | exact hr.ir.2.1 | exact hr.ir.2.2.2.1 | assumption | omega)) 5 0 rfl rfl (ci := 9) rfl rfl rfl (by decide) rfl rfl (Nat.le_of_ble_eq_true rfl) ⟨rfl, rfl, by decide, by decide⟩ (jst_i (W_u5_6_7_8_9_10_11_12_13 ..) ?_)
  simp only [zif_same]
  refine r_same (pc := 547) (tgt := 934) C dL_law_547 (by decide) rfl ?_
  exact nx _ _ _ _ _ _ (rl_up (rl_plain (qr_stays _ _ _ _) hr (fun _ => rl_r5 hr)))

set_option maxRecDepth 100000 in
set_option maxHeartbeats 4000000 in
theorem lw_c_cheapest {K : KT} {l : Launch} {G : GT} {a b : Nat → Nat} {b0 L : Nat} {xs : Nat → Int32} {i : Int} {X M P S R T : Tn} (C : Cf K l G cL_law RL (some .boolean) room_1) (hX : va_X b0 L xs (ks K) (ks K).heap) (hbl : b0 < (ks K).heap.size) (hbA : ¬ kA K b0) (hL : L ≤ 2560) (hi : 0 ≤ i ∧ i + 5 ≤ L) (hr : Rl X S R P T) (nx : ∀ X' M' P' S' R' T' : Tn, Rl X' S' R' P' T' → Wc K G 934 [some (.ref b0), some (.ref (a 0)), some (.ref (b 0)), some (.int (iI i))] [] (wW G a b X' T' M' P' S' R' T')) : Wc K G 552 [some (.ref b0), some (.ref (a 0)), some (.ref (b 0)), some (.int (iI i))] [] (wW G a b X T M P S R T) := by
  refine r_aload_n (pc := 552) C 1 dL_law_552 rfl rfl ?_
  refine r_aload_n (pc := 553) C 0 dL_law_553 rfl rfl ?_
  refine r_iload_n (pc := 554) C 3 dL_law_554 rfl rfl ?_
  refine r_iconst (pc := 555) C dL_law_555 ?_
  refine r_iadd (pc := 556) C dL_law_556 ?_
  refine r_sld (pc := 557) C hX hbl hbA hL dL_law_557 (by omega) ?_
  refine r_aload_n (pc := 558) C 0 dL_law_558 rfl rfl ?_
  refine r_iload_n (pc := 559) C 3 dL_law_559 rfl rfl ?_
  refine r_iconst (pc := 560) C dL_law_560 ?_
  refine r_iadd (pc := 561) C dL_law_561 ?_
  refine r_sld (pc := 562) C hX hbl hbA hL dL_law_562 (by omega) ?_
  refine r_aload_n (pc := 563) C 0 dL_law_563 rfl rfl ?_
  refine r_iload_n (pc := 564) C 3 dL_law_564 rfl rfl ?_
  refine r_iconst (pc := 565) C dL_law_565 ?_
  refine r_iadd (pc := 566) C dL_law_566 ?_
  refine r_sld (pc := 567) C hX hbl hbA hL dL_law_567 (by omega) ?_
  refine r_aload_n (pc := 568) C 0 dL_law_568 rfl rfl ?_
  refine r_iload_n (pc := 569) C 3 dL_law_569 rfl rfl ?_
  refine r_iconst (pc := 570) C dL_law_570 ?_
  refine r_iadd (pc := 571) C dL_law_571 ?_
  refine r_sld (pc := 572) C hX hbl hbA hL dL_law_572 (by omega) ?_
  refine r_callV (pc := 573) (is := [0, 1, 2, 3, 4]) C YX8_cheapest dL_law_573 tw_624 (c_X8_cheapest l G _ _ _ _ _ _ _ _ _ _ (by first | exact xv_r _ _ | exact hr.it | exact hr.ir | exact hr.ix | exact hr.k | exact hr.ir.2.1 | exact hr.ir.2.2.2.1 | assumption | omega) (by first | exact xv_r _ _ | exact hr.it | exact hr.ir | exact hr.ix | exact hr.k | exact hr.ir.2.1 | exact hr.ir.2.2.2.1 | assumption | omega) (by first | exact xv_r _ _ | exact hr.it | exact hr.ir | exact hr.ix | exact hr.k | exact hr.ir.2.1 | exact hr.ir.2.2.2.1 | assumption | omega) (by first | exact xv_r _ _ | exact hr.it | exact hr.ir | exact hr.ix | exact hr.k | exact hr.ir.2.1 | exact hr.ir.2.2.2.1 | assumption | omega) (by first | exact xv_r _ _ | exact hr.it | exact hr.ir | exact hr.ix | exact hr.k | exact hr.ir.2.1 | exact hr.ir.2.2.2.1 | assumption | omega) (by first | exact xv_r _ _ | exact hr.it | exact hr.ir | exact hr.ix | exact hr.k | exact hr.ir.2.1 | exact hr.ir.2.2.2.1 | assumption | omega) (by first | exact xv_r _ _ | exact hr.it | exact hr.ir | exact hr.ix | exact hr.k | exact hr.ir.2.1 | exact hr.ir.2.2.2.1 | assumption | omega)) 0 0 rfl rfl (ci := 8) rfl rfl rfl (by decide) rfl rfl (Nat.le_of_ble_eq_true rfl) ⟨rfl, rfl, by decide, by decide⟩ ?_
  refine fun o g hq0 _ => ?_
  obtain ⟨rfl, M1, F2, F3, rfl⟩ := hq0
  show Wc K G _ _ (.int (iI (zans (q_cheap T (xv xs (i + 1)) (xv xs (i + 2)) (xv xs (i + 3)) (xv xs (i + 4))) ((sCheap T (xv xs (i + 1)) (xv xs (i + 2)) (xv xs (i + 3)) (xv xs (i + 4)) (zp2 (T 0 1))).1))) :: _) (wW G a b (up1 (up1 (zif (q_cheap T (xv xs (i + 1)) (xv xs (i + 2)) (xv xs (i + 3)) (xv xs (i + 4))) X (xrf X (q_cheap T (xv xs (i + 1)) (xv xs (i + 2)) (xv xs (i + 3)) (xv xs (i + 4))))) 2 F2) 3 F3) (zif (q_cheap T (xv xs (i + 1)) (xv xs (i + 2)) (xv xs (i + 3)) (xv xs (i + 4))) T T) M1 P S R T)
  refine r_aload_n (pc := 576) C 2 dL_law_576 rfl rfl ?_
  refine r_aload_n (pc := 577) C 0 dL_law_577 rfl rfl ?_
  refine r_iload_n (pc := 578) C 3 dL_law_578 rfl rfl ?_
  refine r_iconst (pc := 579) C dL_law_579 ?_
  refine r_iadd (pc := 580) C dL_law_580 ?_
  refine r_sld (pc := 581) C hX hbl hbA hL dL_law_581 (by omega) ?_
  refine r_aload_n (pc := 582) C 0 dL_law_582 rfl rfl ?_
  refine r_iload_n (pc := 583) C 3 dL_law_583 rfl rfl ?_
  refine r_iconst (pc := 584) C dL_law_584 ?_
  refine r_iadd (pc := 585) C dL_law_585 ?_
  refine r_sld (pc := 586) C hX hbl hbA hL dL_law_586 (by omega) ?_
  refine r_aload_n (pc := 587) C 0 dL_law_587 rfl rfl ?_
  refine r_iload_n (pc := 588) C 3 dL_law_588 rfl rfl ?_
  refine r_iconst (pc := 589) C dL_law_589 ?_
  refine r_iadd (pc := 590) C dL_law_590 ?_
  refine r_sld (pc := 591) C hX hbl hbA hL dL_law_591 (by omega) ?_
  refine r_aload_n (pc := 592) C 0 dL_law_592 rfl rfl ?_
  refine r_iload_n (pc := 593) C 3 dL_law_593 rfl rfl ?_
  refine r_iconst (pc := 594) C dL_law_594 ?_
  refine r_iadd (pc := 595) C dL_law_595 ?_
  refine r_sld (pc := 596) C hX hbl hbA hL dL_law_596 (by omega) ?_
  refine r_callV (pc := 597) (is := [5, 6, 7, 8, 9, 10, 11, 12, 13]) C YX9_cheapest dL_law_597 tw_962 (c_X9_cheapest l G _ _ _ _ _ _ _ (by first | exact xv_r _ _ | exact hr.it | exact hr.ir | exact hr.ix | exact hr.k | exact hr.ir.2.1 | exact hr.ir.2.2.2.1 | assumption | omega) (by first | exact xv_r _ _ | exact hr.it | exact hr.ir | exact hr.ix | exact hr.k | exact hr.ir.2.1 | exact hr.ir.2.2.2.1 | assumption | omega) (by first | exact xv_r _ _ | exact hr.it | exact hr.ir | exact hr.ix | exact hr.k | exact hr.ir.2.1 | exact hr.ir.2.2.2.1 | assumption | omega) (by first | exact xv_r _ _ | exact hr.it | exact hr.ir | exact hr.ix | exact hr.k | exact hr.ir.2.1 | exact hr.ir.2.2.2.1 | assumption | omega) (by first | exact xv_r _ _ | exact hr.it | exact hr.ir | exact hr.ix | exact hr.k | exact hr.ir.2.1 | exact hr.ir.2.2.2.1 | assumption | omega) (by first | exact xv_r _ _ | exact hr.it | exact hr.ir | exact hr.ix | exact hr.k | exact hr.ir.2.1 | exact hr.ir.2.2.2.1 | assumption | omega) (by first | exact xv_r _ _ | exact hr.it | exact hr.ir | exact hr.ix | exact hr.k | exact hr.ir.2.1 | exact hr.ir.2.2.2.1 | assumption | omega)) 5 0 rfl rfl (ci := 9) rfl rfl rfl (by decide) rfl rfl (Nat.le_of_ble_eq_true rfl) ⟨rfl, rfl, by decide, by decide⟩ (jst_i (W_u5_6_7_8_9_10_11_12_13 ..) ?_)
  simp only [zif_same]
  refine r_same (pc := 600) (tgt := 934) C dL_law_600 (by decide) rfl ?_
  exact nx _ _ _ _ _ _ (rl_up (rl_plain (qr_cheap _ _ _ _ _) hr (fun _ => rl_r5 hr)))

set_option maxRecDepth 100000 in
set_option maxHeartbeats 4000000 in
theorem lw_c_near {K : KT} {l : Launch} {G : GT} {a b : Nat → Nat} {b0 L : Nat} {xs : Nat → Int32} {i : Int} {X M P S R T : Tn} (C : Cf K l G cL_law RL (some .boolean) room_1) (hX : va_X b0 L xs (ks K) (ks K).heap) (hbl : b0 < (ks K).heap.size) (hbA : ¬ kA K b0) (hL : L ≤ 2560) (hi : 0 ≤ i ∧ i + 5 ≤ L) (hr : Rl X S R P T) (nx : ∀ X' M' P' S' R' T' : Tn, Rl X' S' R' P' T' → Wc K G 934 [some (.ref b0), some (.ref (a 0)), some (.ref (b 0)), some (.int (iI i))] [] (wW G a b X' T' M' P' S' R' T')) : Wc K G 605 [some (.ref b0), some (.ref (a 0)), some (.ref (b 0)), some (.int (iI i))] [] (wW G a b X T M P S R T) := by
  refine r_aload_n (pc := 605) C 1 dL_law_605 rfl rfl ?_
  refine r_aload_n (pc := 606) C 0 dL_law_606 rfl rfl ?_
  refine r_iload_n (pc := 607) C 3 dL_law_607 rfl rfl ?_
  refine r_iconst (pc := 608) C dL_law_608 ?_
  refine r_iadd (pc := 609) C dL_law_609 ?_
  refine r_sld (pc := 610) C hX hbl hbA hL dL_law_610 (by omega) ?_
  refine r_aload_n (pc := 611) C 0 dL_law_611 rfl rfl ?_
  refine r_iload_n (pc := 612) C 3 dL_law_612 rfl rfl ?_
  refine r_iconst (pc := 613) C dL_law_613 ?_
  refine r_iadd (pc := 614) C dL_law_614 ?_
  refine r_sld (pc := 615) C hX hbl hbA hL dL_law_615 (by omega) ?_
  refine r_callV (pc := 616) (is := [0, 1, 2, 3, 4]) C YX8_near dL_law_616 tw_634 (c_X8_near l G _ _ _ _ _ _ _ _ (by first | exact xv_r _ _ | exact hr.it | exact hr.ir | exact hr.ix | exact hr.k | exact hr.ir.2.1 | exact hr.ir.2.2.2.1 | assumption | omega) (by first | exact xv_r _ _ | exact hr.it | exact hr.ir | exact hr.ix | exact hr.k | exact hr.ir.2.1 | exact hr.ir.2.2.2.1 | assumption | omega) (by first | exact xv_r _ _ | exact hr.it | exact hr.ir | exact hr.ix | exact hr.k | exact hr.ir.2.1 | exact hr.ir.2.2.2.1 | assumption | omega) (by first | exact xv_r _ _ | exact hr.it | exact hr.ir | exact hr.ix | exact hr.k | exact hr.ir.2.1 | exact hr.ir.2.2.2.1 | assumption | omega)) 0 0 rfl rfl (ci := 8) rfl rfl rfl (by decide) rfl rfl (Nat.le_of_ble_eq_true rfl) ⟨rfl, rfl, by decide, by decide⟩ ?_
  refine fun o g hq0 _ => ?_
  obtain ⟨rfl, M1, F2, F3, rfl⟩ := hq0
  show Wc K G _ _ (.int (iI (zans (q_near (xv xs (i + 1)) (xv xs (i + 2))) (v_near T (xv xs (i + 1)) (xv xs (i + 2))))) :: _) (wW G a b (up1 (up1 (zif (q_near (xv xs (i + 1)) (xv xs (i + 2))) X (xrf X (q_near (xv xs (i + 1)) (xv xs (i + 2))))) 2 F2) 3 F3) (zif (q_near (xv xs (i + 1)) (xv xs (i + 2))) T T) M1 P S R T)
  refine r_aload_n (pc := 619) C 2 dL_law_619 rfl rfl ?_
  refine r_aload_n (pc := 620) C 0 dL_law_620 rfl rfl ?_
  refine r_iload_n (pc := 621) C 3 dL_law_621 rfl rfl ?_
  refine r_iconst (pc := 622) C dL_law_622 ?_
  refine r_iadd (pc := 623) C dL_law_623 ?_
  refine r_sld (pc := 624) C hX hbl hbA hL dL_law_624 (by omega) ?_
  refine r_aload_n (pc := 625) C 0 dL_law_625 rfl rfl ?_
  refine r_iload_n (pc := 626) C 3 dL_law_626 rfl rfl ?_
  refine r_iconst (pc := 627) C dL_law_627 ?_
  refine r_iadd (pc := 628) C dL_law_628 ?_
  refine r_sld (pc := 629) C hX hbl hbA hL dL_law_629 (by omega) ?_
  refine r_callV (pc := 630) (is := [5, 6, 7, 8, 9, 10, 11, 12, 13]) C YX9_near dL_law_630 tw_974 (c_X9_near l G _ _ _ _ _ (by first | exact xv_r _ _ | exact hr.it | exact hr.ir | exact hr.ix | exact hr.k | exact hr.ir.2.1 | exact hr.ir.2.2.2.1 | assumption | omega) (by first | exact xv_r _ _ | exact hr.it | exact hr.ir | exact hr.ix | exact hr.k | exact hr.ir.2.1 | exact hr.ir.2.2.2.1 | assumption | omega) (by first | exact xv_r _ _ | exact hr.it | exact hr.ir | exact hr.ix | exact hr.k | exact hr.ir.2.1 | exact hr.ir.2.2.2.1 | assumption | omega) (by first | exact xv_r _ _ | exact hr.it | exact hr.ir | exact hr.ix | exact hr.k | exact hr.ir.2.1 | exact hr.ir.2.2.2.1 | assumption | omega)) 5 0 rfl rfl (ci := 9) rfl rfl rfl (by decide) rfl rfl (Nat.le_of_ble_eq_true rfl) ⟨rfl, rfl, by decide, by decide⟩ (jst_i (W_u5_6_7_8_9_10_11_12_13 ..) ?_)
  simp only [zif_same]
  refine r_same (pc := 633) (tgt := 934) C dL_law_633 (by decide) rfl ?_
  exact nx _ _ _ _ _ _ (rl_up (rl_plain (qr_near _ _) hr (fun _ => hr)))

set_option maxRecDepth 100000 in
set_option maxHeartbeats 4000000 in
theorem lw_c_whose {K : KT} {l : Launch} {G : GT} {a b : Nat → Nat} {b0 L : Nat} {xs : Nat → Int32} {i : Int} {X M P S R T : Tn} (C : Cf K l G cL_law RL (some .boolean) room_1) (hX : va_X b0 L xs (ks K) (ks K).heap) (hbl : b0 < (ks K).heap.size) (hbA : ¬ kA K b0) (hL : L ≤ 2560) (hi : 0 ≤ i ∧ i + 5 ≤ L) (hr : Rl X S R P T) (nx : ∀ X' M' P' S' R' T' : Tn, Rl X' S' R' P' T' → Wc K G 934 [some (.ref b0), some (.ref (a 0)), some (.ref (b 0)), some (.int (iI i))] [] (wW G a b X' T' M' P' S' R' T')) : Wc K G 638 [some (.ref b0), some (.ref (a 0)), some (.ref (b 0)), some (.int (iI i))] [] (wW G a b X T M P S R T) := by
  refine r_aload_n (pc := 638) C 1 dL_law_638 rfl rfl ?_
  refine r_aload_n (pc := 639) C 0 dL_law_639 rfl rfl ?_
  refine r_iload_n (pc := 640) C 3 dL_law_640 rfl rfl ?_
  refine r_iconst (pc := 641) C dL_law_641 ?_
  refine r_iadd (pc := 642) C dL_law_642 ?_
  refine r_sld (pc := 643) C hX hbl hbA hL dL_law_643 (by omega) ?_
  refine r_aload_n (pc := 644) C 0 dL_law_644 rfl rfl ?_
  refine r_iload_n (pc := 645) C 3 dL_law_645 rfl rfl ?_
  refine r_iconst (pc := 646) C dL_law_646 ?_
  refine r_iadd (pc := 647) C dL_law_647 ?_
  refine r_sld (pc := 648) C hX hbl hbA hL dL_law_648 (by omega) ?_
  refine r_callV (pc := 649) (is := [0, 1, 2, 3, 4]) C YX8_whose dL_law_649 tw_658 (c_X8_whose l G _ _ _ _ _ _ _ _ (by first | exact xv_r _ _ | exact hr.it | exact hr.ir | exact hr.ix | exact hr.k | exact hr.ir.2.1 | exact hr.ir.2.2.2.1 | assumption | omega) (by first | exact xv_r _ _ | exact hr.it | exact hr.ir | exact hr.ix | exact hr.k | exact hr.ir.2.1 | exact hr.ir.2.2.2.1 | assumption | omega) (by first | exact xv_r _ _ | exact hr.it | exact hr.ir | exact hr.ix | exact hr.k | exact hr.ir.2.1 | exact hr.ir.2.2.2.1 | assumption | omega) (by first | exact xv_r _ _ | exact hr.it | exact hr.ir | exact hr.ix | exact hr.k | exact hr.ir.2.1 | exact hr.ir.2.2.2.1 | assumption | omega)) 0 0 rfl rfl (ci := 8) rfl rfl rfl (by decide) rfl rfl (Nat.le_of_ble_eq_true rfl) ⟨rfl, rfl, by decide, by decide⟩ ?_
  refine fun o g hq0 _ => ?_
  obtain ⟨rfl, M1, F2, F3, rfl⟩ := hq0
  show Wc K G _ _ (.int (iI (zans (q_lo T (xv xs (i + 1)) (xv xs (i + 2)) 0 18) (sComp T (xv xs (i + 2)) (xv xs (i + 1))))) :: _) (wW G a b (up1 (up1 (zif (q_lo T (xv xs (i + 1)) (xv xs (i + 2)) 0 18) X (xrf X (q_lo T (xv xs (i + 1)) (xv xs (i + 2)) 0 18))) 2 F2) 3 F3) (zif (q_lo T (xv xs (i + 1)) (xv xs (i + 2)) 0 18) T T) M1 P S R T)
  refine r_aload_n (pc := 652) C 2 dL_law_652 rfl rfl ?_
  refine r_aload_n (pc := 653) C 0 dL_law_653 rfl rfl ?_
  refine r_iload_n (pc := 654) C 3 dL_law_654 rfl rfl ?_
  refine r_iconst (pc := 655) C dL_law_655 ?_
  refine r_iadd (pc := 656) C dL_law_656 ?_
  refine r_sld (pc := 657) C hX hbl hbA hL dL_law_657 (by omega) ?_
  refine r_aload_n (pc := 658) C 0 dL_law_658 rfl rfl ?_
  refine r_iload_n (pc := 659) C 3 dL_law_659 rfl rfl ?_
  refine r_iconst (pc := 660) C dL_law_660 ?_
  refine r_iadd (pc := 661) C dL_law_661 ?_
  refine r_sld (pc := 662) C hX hbl hbA hL dL_law_662 (by omega) ?_
  refine r_callV (pc := 663) (is := [5, 6, 7, 8, 9, 10, 11, 12, 13]) C YX9_whose dL_law_663 tw_982 (c_X9_whose l G _ _ _ _ _ (by first | exact xv_r _ _ | exact hr.it | exact hr.ir | exact hr.ix | exact hr.k | exact hr.ir.2.1 | exact hr.ir.2.2.2.1 | assumption | omega) (by first | exact xv_r _ _ | exact hr.it | exact hr.ir | exact hr.ix | exact hr.k | exact hr.ir.2.1 | exact hr.ir.2.2.2.1 | assumption | omega) (by first | exact xv_r _ _ | exact hr.it | exact hr.ir | exact hr.ix | exact hr.k | exact hr.ir.2.1 | exact hr.ir.2.2.2.1 | assumption | omega) (by first | exact xv_r _ _ | exact hr.it | exact hr.ir | exact hr.ix | exact hr.k | exact hr.ir.2.1 | exact hr.ir.2.2.2.1 | assumption | omega)) 5 0 rfl rfl (ci := 9) rfl rfl rfl (by decide) rfl rfl (Nat.le_of_ble_eq_true rfl) ⟨rfl, rfl, by decide, by decide⟩ (jst_i (W_u5_6_7_8_9_10_11_12_13 ..) ?_)
  simp only [zif_same]
  refine r_same (pc := 666) (tgt := 934) C dL_law_666 (by decide) rfl ?_
  exact nx _ _ _ _ _ _ (rl_up (rl_plain (qr_lo _ _ _ _ _) hr (fun _ => hr)))

set_option maxRecDepth 100000 in
set_option maxHeartbeats 4000000 in
theorem lw_c_run {K : KT} {l : Launch} {G : GT} {a b : Nat → Nat} {b0 L : Nat} {xs : Nat → Int32} {i : Int} {X M P S R T : Tn} (C : Cf K l G cL_law RL (some .boolean) room_1) (hX : va_X b0 L xs (ks K) (ks K).heap) (hbl : b0 < (ks K).heap.size) (hbA : ¬ kA K b0) (hL : L ≤ 2560) (hi : 0 ≤ i ∧ i + 5 ≤ L) (hr : Rl X S R P T) (nx : ∀ X' M' P' S' R' T' : Tn, Rl X' S' R' P' T' → Wc K G 934 [some (.ref b0), some (.ref (a 0)), some (.ref (b 0)), some (.int (iI i))] [] (wW G a b X' T' M' P' S' R' T')) : Wc K G 671 [some (.ref b0), some (.ref (a 0)), some (.ref (b 0)), some (.int (iI i))] [] (wW G a b X T M P S R T) := by
  refine r_aload_n (pc := 671) C 1 dL_law_671 rfl rfl ?_
  refine r_aload_n (pc := 672) C 0 dL_law_672 rfl rfl ?_
  refine r_iload_n (pc := 673) C 3 dL_law_673 rfl rfl ?_
  refine r_iconst (pc := 674) C dL_law_674 ?_
  refine r_iadd (pc := 675) C dL_law_675 ?_
  refine r_sld (pc := 676) C hX hbl hbA hL dL_law_676 (by omega) ?_
  refine r_aload_n (pc := 677) C 0 dL_law_677 rfl rfl ?_
  refine r_iload_n (pc := 678) C 3 dL_law_678 rfl rfl ?_
  refine r_iconst (pc := 679) C dL_law_679 ?_
  refine r_iadd (pc := 680) C dL_law_680 ?_
  refine r_sld (pc := 681) C hX hbl hbA hL dL_law_681 (by omega) ?_
  refine r_callV (pc := 682) (is := [0, 1, 2, 3, 4]) C YX8_run dL_law_682 tw_662 (c_X8_run l G _ _ _ _ _ _ _ _ (by first | exact xv_r _ _ | exact hr.it | exact hr.ir | exact hr.ix | exact hr.k | exact hr.ir.2.1 | exact hr.ir.2.2.2.1 | assumption | omega) (by first | exact xv_r _ _ | exact hr.it | exact hr.ir | exact hr.ix | exact hr.k | exact hr.ir.2.1 | exact hr.ir.2.2.2.1 | assumption | omega) (by first | exact xv_r _ _ | exact hr.it | exact hr.ir | exact hr.ix | exact hr.k | exact hr.ir.2.1 | exact hr.ir.2.2.2.1 | assumption | omega) (by first | exact xv_r _ _ | exact hr.it | exact hr.ir | exact hr.ix | exact hr.k | exact hr.ir.2.1 | exact hr.ir.2.2.2.1 | assumption | omega) (by first | exact xv_r _ _ | exact hr.it | exact hr.ir | exact hr.ix | exact hr.k | exact hr.ir.2.1 | exact hr.ir.2.2.2.1 | assumption | omega)) 0 0 rfl rfl (ci := 8) rfl rfl rfl (by decide) rfl rfl (Nat.le_of_ble_eq_true rfl) ⟨rfl, rfl, by decide, by decide⟩ ?_
  refine fun o g hq0 _ => ?_
  obtain ⟨rfl, M1, F2, F3, rfl⟩ := hq0
  show Wc K G _ _ (.int (iI (zans (q_lo T (xv xs (i + 1)) (xv xs (i + 2)) 0 999) (v_run T (xv xs (i + 1)) (xv xs (i + 2))))) :: _) (wW G a b (up1 (up1 (zif (q_lo T (xv xs (i + 1)) (xv xs (i + 2)) 0 999) X (xrf X (q_lo T (xv xs (i + 1)) (xv xs (i + 2)) 0 999))) 2 F2) 3 F3) (zif (q_lo T (xv xs (i + 1)) (xv xs (i + 2)) 0 999) T T) M1 P S R T)
  refine r_aload_n (pc := 685) C 2 dL_law_685 rfl rfl ?_
  refine r_aload_n (pc := 686) C 0 dL_law_686 rfl rfl ?_
  refine r_iload_n (pc := 687) C 3 dL_law_687 rfl rfl ?_
  refine r_iconst (pc := 688) C dL_law_688 ?_
  refine r_iadd (pc := 689) C dL_law_689 ?_
  refine r_sld (pc := 690) C hX hbl hbA hL dL_law_690 (by omega) ?_
  refine r_aload_n (pc := 691) C 0 dL_law_691 rfl rfl ?_
  refine r_iload_n (pc := 692) C 3 dL_law_692 rfl rfl ?_
  refine r_iconst (pc := 693) C dL_law_693 ?_
  refine r_iadd (pc := 694) C dL_law_694 ?_
  refine r_sld (pc := 695) C hX hbl hbA hL dL_law_695 (by omega) ?_
  refine r_callV (pc := 696) (is := [5, 6, 7, 8, 9, 10, 11, 12, 13]) C YX9_run dL_law_696 tw_986 (c_X9_run l G _ _ _ _ _ (by first | exact xv_r _ _ | exact hr.it | exact hr.ir | exact hr.ix | exact hr.k | exact hr.ir.2.1 | exact hr.ir.2.2.2.1 | assumption | omega) (by first | exact xv_r _ _ | exact hr.it | exact hr.ir | exact hr.ix | exact hr.k | exact hr.ir.2.1 | exact hr.ir.2.2.2.1 | assumption | omega) (by first | exact xv_r _ _ | exact hr.it | exact hr.ir | exact hr.ix | exact hr.k | exact hr.ir.2.1 | exact hr.ir.2.2.2.1 | assumption | omega) (by first | exact xv_r _ _ | exact hr.it | exact hr.ir | exact hr.ix | exact hr.k | exact hr.ir.2.1 | exact hr.ir.2.2.2.1 | assumption | omega) (by first | exact xv_r _ _ | exact hr.it | exact hr.ir | exact hr.ix | exact hr.k | exact hr.ir.2.1 | exact hr.ir.2.2.2.1 | assumption | omega)) 5 0 rfl rfl (ci := 9) rfl rfl rfl (by decide) rfl rfl (Nat.le_of_ble_eq_true rfl) ⟨rfl, rfl, by decide, by decide⟩ (jst_i (W_u5_6_7_8_9_10_11_12_13 ..) ?_)
  simp only [zif_same]
  refine r_same (pc := 699) (tgt := 934) C dL_law_699 (by decide) rfl ?_
  exact nx _ _ _ _ _ _ (rl_up (rl_plain (qr_lo _ _ _ _ _) hr (fun _ => rl_r5 hr)))

set_option maxRecDepth 100000 in
set_option maxHeartbeats 4000000 in
theorem lw_c_bestOpen {K : KT} {l : Launch} {G : GT} {a b : Nat → Nat} {b0 L : Nat} {xs : Nat → Int32} {i : Int} {X M P S R T : Tn} (C : Cf K l G cL_law RL (some .boolean) room_1) (hX : va_X b0 L xs (ks K) (ks K).heap) (hbl : b0 < (ks K).heap.size) (hbA : ¬ kA K b0) (hL : L ≤ 2560) (hi : 0 ≤ i ∧ i + 5 ≤ L) (hr : Rl X S R P T) (nx : ∀ X' M' P' S' R' T' : Tn, Rl X' S' R' P' T' → Wc K G 934 [some (.ref b0), some (.ref (a 0)), some (.ref (b 0)), some (.int (iI i))] [] (wW G a b X' T' M' P' S' R' T')) : Wc K G 704 [some (.ref b0), some (.ref (a 0)), some (.ref (b 0)), some (.int (iI i))] [] (wW G a b X T M P S R T) := by
  refine r_aload_n (pc := 704) C 1 dL_law_704 rfl rfl ?_
  refine r_aload_n (pc := 705) C 0 dL_law_705 rfl rfl ?_
  refine r_iload_n (pc := 706) C 3 dL_law_706 rfl rfl ?_
  refine r_iconst (pc := 707) C dL_law_707 ?_
  refine r_iadd (pc := 708) C dL_law_708 ?_
  refine r_sld (pc := 709) C hX hbl hbA hL dL_law_709 (by omega) ?_
  refine r_aload_n (pc := 710) C 0 dL_law_710 rfl rfl ?_
  refine r_iload_n (pc := 711) C 3 dL_law_711 rfl rfl ?_
  refine r_iconst (pc := 712) C dL_law_712 ?_
  refine r_iadd (pc := 713) C dL_law_713 ?_
  refine r_sld (pc := 714) C hX hbl hbA hL dL_law_714 (by omega) ?_
  refine r_callV (pc := 715) (is := [0, 1, 2, 3, 4]) C YX8_bestOpen dL_law_715 tw_666 (c_X8_bestOpen l G _ _ _ _ _ _ _ _ (by first | exact xv_r _ _ | exact hr.it | exact hr.ir | exact hr.ix | exact hr.k | exact hr.ir.2.1 | exact hr.ir.2.2.2.1 | assumption | omega) (by first | exact xv_r _ _ | exact hr.it | exact hr.ir | exact hr.ix | exact hr.k | exact hr.ir.2.1 | exact hr.ir.2.2.2.1 | assumption | omega) (by first | exact xv_r _ _ | exact hr.it | exact hr.ir | exact hr.ix | exact hr.k | exact hr.ir.2.1 | exact hr.ir.2.2.2.1 | assumption | omega) (by first | exact xv_r _ _ | exact hr.it | exact hr.ir | exact hr.ix | exact hr.k | exact hr.ir.2.1 | exact hr.ir.2.2.2.1 | assumption | omega) (by first | exact xv_r _ _ | exact hr.it | exact hr.ir | exact hr.ix | exact hr.k | exact hr.ir.2.1 | exact hr.ir.2.2.2.1 | assumption | omega)) 0 0 rfl rfl (ci := 8) rfl rfl rfl (by decide) rfl rfl (Nat.le_of_ble_eq_true rfl) ⟨rfl, rfl, by decide, by decide⟩ ?_
  refine fun o g hq0 _ => ?_
  obtain ⟨rfl, M1, F2, F3, rfl⟩ := hq0
  show Wc K G _ _ (.int (iI (zans (q_lo T (xv xs (i + 1)) (xv xs (i + 2)) 0 40) (v_best T (xv xs (i + 1)) (xv xs (i + 2))))) :: _) (wW G a b (up1 (up1 (zif (q_lo T (xv xs (i + 1)) (xv xs (i + 2)) 0 40) X (xrf X (q_lo T (xv xs (i + 1)) (xv xs (i + 2)) 0 40))) 2 F2) 3 F3) (zif (q_lo T (xv xs (i + 1)) (xv xs (i + 2)) 0 40) T T) M1 P S R T)
  refine r_aload_n (pc := 718) C 2 dL_law_718 rfl rfl ?_
  refine r_aload_n (pc := 719) C 0 dL_law_719 rfl rfl ?_
  refine r_iload_n (pc := 720) C 3 dL_law_720 rfl rfl ?_
  refine r_iconst (pc := 721) C dL_law_721 ?_
  refine r_iadd (pc := 722) C dL_law_722 ?_
  refine r_sld (pc := 723) C hX hbl hbA hL dL_law_723 (by omega) ?_
  refine r_aload_n (pc := 724) C 0 dL_law_724 rfl rfl ?_
  refine r_iload_n (pc := 725) C 3 dL_law_725 rfl rfl ?_
  refine r_iconst (pc := 726) C dL_law_726 ?_
  refine r_iadd (pc := 727) C dL_law_727 ?_
  refine r_sld (pc := 728) C hX hbl hbA hL dL_law_728 (by omega) ?_
  refine r_callV (pc := 729) (is := [5, 6, 7, 8, 9, 10, 11, 12, 13]) C YX9_bestOpen dL_law_729 tw_990 (c_X9_bestOpen l G _ _ _ _ _ (by first | exact xv_r _ _ | exact hr.it | exact hr.ir | exact hr.ix | exact hr.k | exact hr.ir.2.1 | exact hr.ir.2.2.2.1 | assumption | omega) (by first | exact xv_r _ _ | exact hr.it | exact hr.ir | exact hr.ix | exact hr.k | exact hr.ir.2.1 | exact hr.ir.2.2.2.1 | assumption | omega) (by first | exact xv_r _ _ | exact hr.it | exact hr.ir | exact hr.ix | exact hr.k | exact hr.ir.2.1 | exact hr.ir.2.2.2.1 | assumption | omega) (by first | exact xv_r _ _ | exact hr.it | exact hr.ir | exact hr.ix | exact hr.k | exact hr.ir.2.1 | exact hr.ir.2.2.2.1 | assumption | omega) (by first | exact xv_r _ _ | exact hr.it | exact hr.ir | exact hr.ix | exact hr.k | exact hr.ir.2.1 | exact hr.ir.2.2.2.1 | assumption | omega)) 5 0 rfl rfl (ci := 9) rfl rfl rfl (by decide) rfl rfl (Nat.le_of_ble_eq_true rfl) ⟨rfl, rfl, by decide, by decide⟩ (jst_i (W_u5_6_7_8_9_10_11_12_13 ..) ?_)
  simp only [zif_same]
  refine r_same (pc := 732) (tgt := 934) C dL_law_732 (by decide) rfl ?_
  exact nx _ _ _ _ _ _ (rl_up (rl_plain (qr_lo _ _ _ _ _) hr (fun _ => rl_r5 hr)))

set_option maxRecDepth 100000 in
set_option maxHeartbeats 4000000 in
theorem lw_c_homing {K : KT} {l : Launch} {G : GT} {a b : Nat → Nat} {b0 L : Nat} {xs : Nat → Int32} {i : Int} {X M P S R T : Tn} (C : Cf K l G cL_law RL (some .boolean) room_1) (hX : va_X b0 L xs (ks K) (ks K).heap) (hbl : b0 < (ks K).heap.size) (hbA : ¬ kA K b0) (hL : L ≤ 2560) (hi : 0 ≤ i ∧ i + 5 ≤ L) (hr : Rl X S R P T) (nx : ∀ X' M' P' S' R' T' : Tn, Rl X' S' R' P' T' → Wc K G 934 [some (.ref b0), some (.ref (a 0)), some (.ref (b 0)), some (.int (iI i))] [] (wW G a b X' T' M' P' S' R' T')) : Wc K G 737 [some (.ref b0), some (.ref (a 0)), some (.ref (b 0)), some (.int (iI i))] [] (wW G a b X T M P S R T) := by
  refine r_aload_n (pc := 737) C 1 dL_law_737 rfl rfl ?_
  refine r_aload_n (pc := 738) C 0 dL_law_738 rfl rfl ?_
  refine r_iload_n (pc := 739) C 3 dL_law_739 rfl rfl ?_
  refine r_iconst (pc := 740) C dL_law_740 ?_
  refine r_iadd (pc := 741) C dL_law_741 ?_
  refine r_sld (pc := 742) C hX hbl hbA hL dL_law_742 (by omega) ?_
  refine r_callV (pc := 743) (is := [0, 1, 2, 3, 4]) C YX8_homing dL_law_743 tw_670 (c_X8_homing l G _ _ _ _ _ _ _ (by first | exact xv_r _ _ | exact hr.it | exact hr.ir | exact hr.ix | exact hr.k | exact hr.ir.2.1 | exact hr.ir.2.2.2.1 | assumption | omega) (by first | exact xv_r _ _ | exact hr.it | exact hr.ir | exact hr.ix | exact hr.k | exact hr.ir.2.1 | exact hr.ir.2.2.2.1 | assumption | omega) (by first | exact xv_r _ _ | exact hr.it | exact hr.ir | exact hr.ix | exact hr.k | exact hr.ir.2.1 | exact hr.ir.2.2.2.1 | assumption | omega) (by first | exact xv_r _ _ | exact hr.it | exact hr.ir | exact hr.ix | exact hr.k | exact hr.ir.2.1 | exact hr.ir.2.2.2.1 | assumption | omega)) 0 0 rfl rfl (ci := 8) rfl rfl rfl (by decide) rfl rfl (Nat.le_of_ble_eq_true rfl) ⟨rfl, rfl, by decide, by decide⟩ ?_
  refine fun o g hq0 _ => ?_
  obtain ⟨rfl, M1, F2, F3, rfl⟩ := hq0
  show Wc K G _ _ (.int (iI (zans (q_dov T (xv xs (i + 1))) (v_homing T (xv xs (i + 1))))) :: _) (wW G a b (up1 (up1 (zif (q_dov T (xv xs (i + 1))) X (xrf X (q_dov T (xv xs (i + 1))))) 2 F2) 3 F3) (zif (q_dov T (xv xs (i + 1))) T T) M1 P S R T)
  refine r_aload_n (pc := 746) C 2 dL_law_746 rfl rfl ?_
  refine r_aload_n (pc := 747) C 0 dL_law_747 rfl rfl ?_
  refine r_iload_n (pc := 748) C 3 dL_law_748 rfl rfl ?_
  refine r_iconst (pc := 749) C dL_law_749 ?_
  refine r_iadd (pc := 750) C dL_law_750 ?_
  refine r_sld (pc := 751) C hX hbl hbA hL dL_law_751 (by omega) ?_
  refine r_callV (pc := 752) (is := [5, 6, 7, 8, 9, 10, 11, 12, 13]) C YX9_homing dL_law_752 tw_994 (c_X9_homing l G _ _ _ _ (by first | exact xv_r _ _ | exact hr.it | exact hr.ir | exact hr.ix | exact hr.k | exact hr.ir.2.1 | exact hr.ir.2.2.2.1 | assumption | omega) (by first | exact xv_r _ _ | exact hr.it | exact hr.ir | exact hr.ix | exact hr.k | exact hr.ir.2.1 | exact hr.ir.2.2.2.1 | assumption | omega) (by first | exact xv_r _ _ | exact hr.it | exact hr.ir | exact hr.ix | exact hr.k | exact hr.ir.2.1 | exact hr.ir.2.2.2.1 | assumption | omega) (by first | exact xv_r _ _ | exact hr.it | exact hr.ir | exact hr.ix | exact hr.k | exact hr.ir.2.1 | exact hr.ir.2.2.2.1 | assumption | omega)) 5 0 rfl rfl (ci := 9) rfl rfl rfl (by decide) rfl rfl (Nat.le_of_ble_eq_true rfl) ⟨rfl, rfl, by decide, by decide⟩ (jst_i (W_u5_6_7_8_9_10_11_12_13 ..) ?_)
  simp only [zif_same]
  refine r_same (pc := 755) (tgt := 934) C dL_law_755 (by decide) rfl ?_
  exact nx _ _ _ _ _ _ (rl_up (rl_plain (qr_dov _ _) hr (fun _ => rl_r5 hr)))

set_option maxRecDepth 100000 in
set_option maxHeartbeats 4000000 in
theorem lw_c_spare {K : KT} {l : Launch} {G : GT} {a b : Nat → Nat} {b0 L : Nat} {xs : Nat → Int32} {i : Int} {X M P S R T : Tn} (C : Cf K l G cL_law RL (some .boolean) room_1) (hX : va_X b0 L xs (ks K) (ks K).heap) (hbl : b0 < (ks K).heap.size) (hbA : ¬ kA K b0) (hL : L ≤ 2560) (hi : 0 ≤ i ∧ i + 5 ≤ L) (hr : Rl X S R P T) (nx : ∀ X' M' P' S' R' T' : Tn, Rl X' S' R' P' T' → Wc K G 934 [some (.ref b0), some (.ref (a 0)), some (.ref (b 0)), some (.int (iI i))] [] (wW G a b X' T' M' P' S' R' T')) : Wc K G 760 [some (.ref b0), some (.ref (a 0)), some (.ref (b 0)), some (.int (iI i))] [] (wW G a b X T M P S R T) := by
  refine r_aload_n (pc := 760) C 1 dL_law_760 rfl rfl ?_
  refine r_aload_n (pc := 761) C 0 dL_law_761 rfl rfl ?_
  refine r_iload_n (pc := 762) C 3 dL_law_762 rfl rfl ?_
  refine r_iconst (pc := 763) C dL_law_763 ?_
  refine r_iadd (pc := 764) C dL_law_764 ?_
  refine r_sld (pc := 765) C hX hbl hbA hL dL_law_765 (by omega) ?_
  refine r_callV (pc := 766) (is := [0, 1, 2, 3, 4]) C YX8_spare dL_law_766 tw_675 (c_X8_spare l G _ _ _ _ _ _ _ (by first | exact xv_r _ _ | exact hr.it | exact hr.ir | exact hr.ix | exact hr.k | exact hr.ir.2.1 | exact hr.ir.2.2.2.1 | assumption | omega) (by first | exact xv_r _ _ | exact hr.it | exact hr.ir | exact hr.ix | exact hr.k | exact hr.ir.2.1 | exact hr.ir.2.2.2.1 | assumption | omega) (by first | exact xv_r _ _ | exact hr.it | exact hr.ir | exact hr.ix | exact hr.k | exact hr.ir.2.1 | exact hr.ir.2.2.2.1 | assumption | omega) (by first | exact xv_r _ _ | exact hr.it | exact hr.ir | exact hr.ix | exact hr.k | exact hr.ir.2.1 | exact hr.ir.2.2.2.1 | assumption | omega)) 0 0 rfl rfl (ci := 8) rfl rfl rfl (by decide) rfl rfl (Nat.le_of_ble_eq_true rfl) ⟨rfl, rfl, by decide, by decide⟩ ?_
  refine fun o g hq0 _ => ?_
  obtain ⟨rfl, M1, F2, F3, rfl⟩ := hq0
  show Wc K G _ _ (.int (iI (zans (sOut (xv xs (i + 1)) 0 40) (v_spare T (xv xs (i + 1))))) :: _) (wW G a b (up1 (up1 (zif (sOut (xv xs (i + 1)) 0 40) X (xrf X (sOut (xv xs (i + 1)) 0 40))) 2 F2) 3 F3) (zif (sOut (xv xs (i + 1)) 0 40) T T) M1 P S R T)
  refine r_aload_n (pc := 769) C 2 dL_law_769 rfl rfl ?_
  refine r_aload_n (pc := 770) C 0 dL_law_770 rfl rfl ?_
  refine r_iload_n (pc := 771) C 3 dL_law_771 rfl rfl ?_
  refine r_iconst (pc := 772) C dL_law_772 ?_
  refine r_iadd (pc := 773) C dL_law_773 ?_
  refine r_sld (pc := 774) C hX hbl hbA hL dL_law_774 (by omega) ?_
  refine r_callV (pc := 775) (is := [5, 6, 7, 8, 9, 10, 11, 12, 13]) C YX9_spare dL_law_775 tw_998 (c_X9_spare l G _ _ _ _ (by first | exact xv_r _ _ | exact hr.it | exact hr.ir | exact hr.ix | exact hr.k | exact hr.ir.2.1 | exact hr.ir.2.2.2.1 | assumption | omega) (by first | exact xv_r _ _ | exact hr.it | exact hr.ir | exact hr.ix | exact hr.k | exact hr.ir.2.1 | exact hr.ir.2.2.2.1 | assumption | omega) (by first | exact xv_r _ _ | exact hr.it | exact hr.ir | exact hr.ix | exact hr.k | exact hr.ir.2.1 | exact hr.ir.2.2.2.1 | assumption | omega) (by first | exact xv_r _ _ | exact hr.it | exact hr.ir | exact hr.ix | exact hr.k | exact hr.ir.2.1 | exact hr.ir.2.2.2.1 | assumption | omega)) 5 0 rfl rfl (ci := 9) rfl rfl rfl (by decide) rfl rfl (Nat.le_of_ble_eq_true rfl) ⟨rfl, rfl, by decide, by decide⟩ (jst_i (W_u5_6_7_8_9_10_11_12_13 ..) ?_)
  simp only [zif_same]
  refine r_same (pc := 778) (tgt := 934) C dL_law_778 (by decide) rfl ?_
  exact nx _ _ _ _ _ _ (rl_up (rl_plain (qr_out _ _ _) hr (fun _ => rl_r5 hr)))

set_option maxRecDepth 100000 in
set_option maxHeartbeats 4000000 in
theorem lw_c_row {K : KT} {l : Launch} {G : GT} {a b : Nat → Nat} {b0 L : Nat} {xs : Nat → Int32} {i : Int} {X M P S R T : Tn} (C : Cf K l G cL_law RL (some .boolean) room_1) (hX : va_X b0 L xs (ks K) (ks K).heap) (hbl : b0 < (ks K).heap.size) (hbA : ¬ kA K b0) (hL : L ≤ 2560) (hi : 0 ≤ i ∧ i + 5 ≤ L) (hr : Rl X S R P T) (nx : ∀ X' M' P' S' R' T' : Tn, Rl X' S' R' P' T' → Wc K G 934 [some (.ref b0), some (.ref (a 0)), some (.ref (b 0)), some (.int (iI i))] [] (wW G a b X' T' M' P' S' R' T')) : Wc K G 783 [some (.ref b0), some (.ref (a 0)), some (.ref (b 0)), some (.int (iI i))] [] (wW G a b X T M P S R T) := by
  refine r_aload_n (pc := 783) C 1 dL_law_783 rfl rfl ?_
  refine r_aload_n (pc := 784) C 0 dL_law_784 rfl rfl ?_
  refine r_iload_n (pc := 785) C 3 dL_law_785 rfl rfl ?_
  refine r_iconst (pc := 786) C dL_law_786 ?_
  refine r_iadd (pc := 787) C dL_law_787 ?_
  refine r_sld (pc := 788) C hX hbl hbA hL dL_law_788 (by omega) ?_
  refine r_callV (pc := 789) (is := [0, 1, 2, 3, 4]) C YX8_row dL_law_789 tw_679 (c_X8_row l G _ _ _ _ _ _ _ (by first | exact xv_r _ _ | exact hr.it | exact hr.ir | exact hr.ix | exact hr.k | exact hr.ir.2.1 | exact hr.ir.2.2.2.1 | assumption | omega) (by first | exact xv_r _ _ | exact hr.it | exact hr.ir | exact hr.ix | exact hr.k | exact hr.ir.2.1 | exact hr.ir.2.2.2.1 | assumption | omega) (by first | exact xv_r _ _ | exact hr.it | exact hr.ir | exact hr.ix | exact hr.k | exact hr.ir.2.1 | exact hr.ir.2.2.2.1 | assumption | omega)) 0 0 rfl rfl (ci := 8) rfl rfl rfl (by decide) rfl rfl (Nat.le_of_ble_eq_true rfl) ⟨rfl, rfl, by decide, by decide⟩ (jst_i (W_u0_1_2_3_4 ..) ?_)
  refine r_aload_n (pc := 792) C 2 dL_law_792 rfl rfl ?_
  refine r_aload_n (pc := 793) C 0 dL_law_793 rfl rfl ?_
  refine r_iload_n (pc := 794) C 3 dL_law_794 rfl rfl ?_
  refine r_iconst (pc := 795) C dL_law_795 ?_
  refine r_iadd (pc := 796) C dL_law_796 ?_
  refine r_sld (pc := 797) C hX hbl hbA hL dL_law_797 (by omega) ?_
  refine r_callV (pc := 798) (is := [5, 6, 7, 8, 9, 10, 11, 12, 13]) C YX9_row dL_law_798 tw_1002 (c_X9_row l G _ _ _ _ (by first | exact xv_r _ _ | exact hr.it | exact hr.ir | exact hr.ix | exact hr.k | exact hr.ir.2.1 | exact hr.ir.2.2.2.1 | assumption | omega) (by first | exact xv_r _ _ | exact hr.it | exact hr.ir | exact hr.ix | exact hr.k | exact hr.ir.2.1 | exact hr.ir.2.2.2.1 | assumption | omega) (by first | exact xv_r _ _ | exact hr.it | exact hr.ir | exact hr.ix | exact hr.k | exact hr.ir.2.1 | exact hr.ir.2.2.2.1 | assumption | omega)) 5 0 rfl rfl (ci := 9) rfl rfl rfl (by decide) rfl rfl (Nat.le_of_ble_eq_true rfl) ⟨rfl, rfl, by decide, by decide⟩ (jst_i (W_u5_6_7_8_9_10_11_12_13 ..) ?_)
  rw [hr.x0]
  refine r_same (pc := 801) (tgt := 934) C dL_law_801 (by decide) rfl ?_
  exact nx _ _ _ _ _ _ (rl_zif (qr_row _ _) hr (fun hq => rl_row hr hq))

set_option maxRecDepth 100000 in
set_option maxHeartbeats 4000000 in
theorem lw_c_paid {K : KT} {l : Launch} {G : GT} {a b : Nat → Nat} {b0 L : Nat} {xs : Nat → Int32} {i : Int} {X M P S R T : Tn} (C : Cf K l G cL_law RL (some .boolean) room_1) (hX : va_X b0 L xs (ks K) (ks K).heap) (hbl : b0 < (ks K).heap.size) (hbA : ¬ kA K b0) (hL : L ≤ 2560) (hi : 0 ≤ i ∧ i + 5 ≤ L) (hr : Rl X S R P T) (nx : ∀ X' M' P' S' R' T' : Tn, Rl X' S' R' P' T' → Wc K G 934 [some (.ref b0), some (.ref (a 0)), some (.ref (b 0)), some (.int (iI i))] [] (wW G a b X' T' M' P' S' R' T')) : Wc K G 806 [some (.ref b0), some (.ref (a 0)), some (.ref (b 0)), some (.int (iI i))] [] (wW G a b X T M P S R T) := by
  refine r_aload_n (pc := 806) C 1 dL_law_806 rfl rfl ?_
  refine r_aload_n (pc := 807) C 0 dL_law_807 rfl rfl ?_
  refine r_iload_n (pc := 808) C 3 dL_law_808 rfl rfl ?_
  refine r_iconst (pc := 809) C dL_law_809 ?_
  refine r_iadd (pc := 810) C dL_law_810 ?_
  refine r_sld (pc := 811) C hX hbl hbA hL dL_law_811 (by omega) ?_
  refine r_callV (pc := 812) (is := [0, 1, 2, 3, 4]) C YX8_paid dL_law_812 tw_683 (c_X8_paid l G _ _ _ _ _ _ _ (by first | exact xv_r _ _ | exact hr.it | exact hr.ir | exact hr.ix | exact hr.k | exact hr.ir.2.1 | exact hr.ir.2.2.2.1 | assumption | omega) (by first | exact xv_r _ _ | exact hr.it | exact hr.ir | exact hr.ix | exact hr.k | exact hr.ir.2.1 | exact hr.ir.2.2.2.1 | assumption | omega) (by first | exact xv_r _ _ | exact hr.it | exact hr.ir | exact hr.ix | exact hr.k | exact hr.ir.2.1 | exact hr.ir.2.2.2.1 | assumption | omega) (by first | exact xv_r _ _ | exact hr.it | exact hr.ir | exact hr.ix | exact hr.k | exact hr.ir.2.1 | exact hr.ir.2.2.2.1 | assumption | omega)) 0 0 rfl rfl (ci := 8) rfl rfl rfl (by decide) rfl rfl (Nat.le_of_ble_eq_true rfl) ⟨rfl, rfl, by decide, by decide⟩ ?_
  refine fun o g hq0 _ => ?_
  obtain ⟨rfl, M1, F2, F3, rfl⟩ := hq0
  show Wc K G _ _ (.int (iI (zans (q_paid T (xv xs (i + 1)) (X 0 0)) (v_paid T (X 1) (xv xs (i + 1))))) :: _) (wW G a b (up1 (up1 (zif (q_paid T (xv xs (i + 1)) (X 0 0)) X (xrf X (q_paid T (xv xs (i + 1)) (X 0 0)))) 2 F2) 3 F3) (zif (q_paid T (xv xs (i + 1)) (X 0 0)) T T) M1 P S R T)
  refine r_aload_n (pc := 815) C 2 dL_law_815 rfl rfl ?_
  refine r_aload_n (pc := 816) C 0 dL_law_816 rfl rfl ?_
  refine r_iload_n (pc := 817) C 3 dL_law_817 rfl rfl ?_
  refine r_iconst (pc := 818) C dL_law_818 ?_
  refine r_iadd (pc := 819) C dL_law_819 ?_
  refine r_sld (pc := 820) C hX hbl hbA hL dL_law_820 (by omega) ?_
  refine r_callV (pc := 821) (is := [5, 6, 7, 8, 9, 10, 11, 12, 13]) C YX9_paid dL_law_821 tw_1006 (c_X9_paid l G _ _ _ _ (by first | exact xv_r _ _ | exact hr.it | exact hr.ir | exact hr.ix | exact hr.k | exact hr.ir.2.1 | exact hr.ir.2.2.2.1 | assumption | omega) (by first | exact xv_r _ _ | exact hr.it | exact hr.ir | exact hr.ix | exact hr.k | exact hr.ir.2.1 | exact hr.ir.2.2.2.1 | assumption | omega) (by first | exact xv_r _ _ | exact hr.it | exact hr.ir | exact hr.ix | exact hr.k | exact hr.ir.2.1 | exact hr.ir.2.2.2.1 | assumption | omega) (by first | exact xv_r _ _ | exact hr.it | exact hr.ir | exact hr.ix | exact hr.k | exact hr.ir.2.1 | exact hr.ir.2.2.2.1 | assumption | omega)) 5 0 rfl rfl (ci := 9) rfl rfl rfl (by decide) rfl rfl (Nat.le_of_ble_eq_true rfl) ⟨rfl, rfl, by decide, by decide⟩ (jst_i (W_u5_6_7_8_9_10_11_12_13 ..) ?_)
  rw [hr.x0, hr.row]
  simp only [zif_same]
  refine r_same (pc := 824) (tgt := 934) C dL_law_824 (by decide) rfl ?_
  exact nx _ _ _ _ _ _ (rl_up (rl_plain (qr_paid _ _ _) hr (fun _ => rl_r5 hr)))

set_option maxRecDepth 100000 in
set_option maxHeartbeats 4000000 in
theorem lw_c_judge {K : KT} {l : Launch} {G : GT} {a b : Nat → Nat} {b0 L : Nat} {xs : Nat → Int32} {i : Int} {X M P S R T : Tn} (C : Cf K l G cL_law RL (some .boolean) room_1) (hX : va_X b0 L xs (ks K) (ks K).heap) (hbl : b0 < (ks K).heap.size) (hbA : ¬ kA K b0) (hL : L ≤ 2560) (hi : 0 ≤ i ∧ i + 5 ≤ L) (hr : Rl X S R P T) (nx : ∀ X' M' P' S' R' T' : Tn, Rl X' S' R' P' T' → Wc K G 934 [some (.ref b0), some (.ref (a 0)), some (.ref (b 0)), some (.int (iI i))] [] (wW G a b X' T' M' P' S' R' T')) : Wc K G 829 [some (.ref b0), some (.ref (a 0)), some (.ref (b 0)), some (.int (iI i))] [] (wW G a b X T M P S R T) := by
  refine r_aload_n (pc := 829) C 1 dL_law_829 rfl rfl ?_
  refine r_callV (pc := 830) (is := [0, 1, 2, 3, 4]) C YX8_judge dL_law_830 tw_695 (c_X8_judge l G _ _ _ _ _ _ (by first | exact xv_r _ _ | exact hr.it | exact hr.ir | exact hr.ix | exact hr.k | exact hr.ir.2.1 | exact hr.ir.2.2.2.1 | assumption | omega) (by first | exact xv_r _ _ | exact hr.it | exact hr.ir | exact hr.ix | exact hr.k | exact hr.ir.2.1 | exact hr.ir.2.2.2.1 | assumption | omega)) 0 0 rfl rfl (ci := 8) rfl rfl rfl (by decide) rfl rfl (Nat.le_of_ble_eq_true rfl) ⟨rfl, rfl, by decide, by decide⟩ (jst_i (W_u0_1_2_3_4 ..) ?_)
  refine r_aload_n (pc := 833) C 2 dL_law_833 rfl rfl ?_
  refine r_callV (pc := 834) (is := [5, 6, 7, 8, 9, 10, 11, 12, 13]) C YX9_judge dL_law_834 tw_1014 (c_X9_judge l G _ _ _ (by first | exact xv_r _ _ | exact hr.it | exact hr.ir | exact hr.ix | exact hr.k | exact hr.ir.2.1 | exact hr.ir.2.2.2.1 | assumption | omega) (by first | exact xv_r _ _ | exact hr.it | exact hr.ir | exact hr.ix | exact hr.k | exact hr.ir.2.1 | exact hr.ir.2.2.2.1 | assumption | omega)) 5 0 rfl rfl (ci := 9) rfl rfl rfl (by decide) rfl rfl (Nat.le_of_ble_eq_true rfl) ⟨rfl, rfl, by decide, by decide⟩ (jst_i (W_u5_6_7_8_9_10_11_12_13 ..) ?_)
  rw [hr.row, hr.x0]
  refine r_same (pc := 837) (tgt := 934) C dL_law_837 (by decide) rfl ?_
  exact nx _ _ _ _ _ _ (rl_judge hr)

set_option maxRecDepth 100000 in
set_option maxHeartbeats 4000000 in
theorem lw_c_seeds {K : KT} {l : Launch} {G : GT} {a b : Nat → Nat} {b0 L : Nat} {xs : Nat → Int32} {i : Int} {X M P S R T : Tn} (C : Cf K l G cL_law RL (some .boolean) room_1) (hX : va_X b0 L xs (ks K) (ks K).heap) (hbl : b0 < (ks K).heap.size) (hbA : ¬ kA K b0) (hL : L ≤ 2560) (hi : 0 ≤ i ∧ i + 5 ≤ L) (hr : Rl X S R P T) (nx : ∀ X' M' P' S' R' T' : Tn, Rl X' S' R' P' T' → Wc K G 934 [some (.ref b0), some (.ref (a 0)), some (.ref (b 0)), some (.int (iI i))] [] (wW G a b X' T' M' P' S' R' T')) : Wc K G 842 [some (.ref b0), some (.ref (a 0)), some (.ref (b 0)), some (.int (iI i))] [] (wW G a b X T M P S R T) := by
  refine r_aload_n (pc := 842) C 1 dL_law_842 rfl rfl ?_
  refine r_aload_n (pc := 843) C 0 dL_law_843 rfl rfl ?_
  refine r_iload_n (pc := 844) C 3 dL_law_844 rfl rfl ?_
  refine r_iconst (pc := 845) C dL_law_845 ?_
  refine r_iadd (pc := 846) C dL_law_846 ?_
  refine r_sld (pc := 847) C hX hbl hbA hL dL_law_847 (by omega) ?_
  refine r_aload_n (pc := 848) C 0 dL_law_848 rfl rfl ?_
  refine r_iload_n (pc := 849) C 3 dL_law_849 rfl rfl ?_
  refine r_iconst (pc := 850) C dL_law_850 ?_
  refine r_iadd (pc := 851) C dL_law_851 ?_
  refine r_sld (pc := 852) C hX hbl hbA hL dL_law_852 (by omega) ?_
  refine r_aload_n (pc := 853) C 0 dL_law_853 rfl rfl ?_
  refine r_iload_n (pc := 854) C 3 dL_law_854 rfl rfl ?_
  refine r_iconst (pc := 855) C dL_law_855 ?_
  refine r_iadd (pc := 856) C dL_law_856 ?_
  refine r_sld (pc := 857) C hX hbl hbA hL dL_law_857 (by omega) ?_
  refine r_callV (pc := 858) (is := [0, 1, 2, 3, 4]) C YX8_seeds dL_law_858 tw_700 (c_X8_seeds l G _ _ _ _ _ _ _ _ _ (by first | exact xv_r _ _ | exact hr.it | exact hr.ir | exact hr.ix | exact hr.k | exact hr.ir.2.1 | exact hr.ir.2.2.2.1 | assumption | omega) (by first | exact xv_r _ _ | exact hr.it | exact hr.ir | exact hr.ix | exact hr.k | exact hr.ir.2.1 | exact hr.ir.2.2.2.1 | assumption | omega) (by first | exact xv_r _ _ | exact hr.it | exact hr.ir | exact hr.ix | exact hr.k | exact hr.ir.2.1 | exact hr.ir.2.2.2.1 | assumption | omega) (by first | exact xv_r _ _ | exact hr.it | exact hr.ir | exact hr.ix | exact hr.k | exact hr.ir.2.1 | exact hr.ir.2.2.2.1 | assumption | omega) (by first | exact xv_r _ _ | exact hr.it | exact hr.ir | exact hr.ix | exact hr.k | exact hr.ir.2.1 | exact hr.ir.2.2.2.1 | assumption | omega) (by first | exact xv_r _ _ | exact hr.it | exact hr.ir | exact hr.ix | exact hr.k | exact hr.ir.2.1 | exact hr.ir.2.2.2.1 | assumption | omega)) 0 0 rfl rfl (ci := 8) rfl rfl rfl (by decide) rfl rfl (Nat.le_of_ble_eq_true rfl) ⟨rfl, rfl, by decide, by decide⟩ ?_
  refine fun o g hq0 _ => ?_
  obtain ⟨rfl, M1, F2, F3, rfl⟩ := hq0
  show Wc K G _ _ (.int (iI (zans (q_lo T (xv xs (i + 3)) (xv xs (i + 1)) 1 30) (v_seeds T (xv xs (i + 1)) (xv xs (i + 2)) (xv xs (i + 3))))) :: _) (wW G a b (up1 (up1 (zif (q_lo T (xv xs (i + 3)) (xv xs (i + 1)) 1 30) X (xrf X (q_lo T (xv xs (i + 3)) (xv xs (i + 1)) 1 30))) 2 F2) 3 F3) (zif (q_lo T (xv xs (i + 3)) (xv xs (i + 1)) 1 30) T T) M1 P S R T)
  refine r_aload_n (pc := 861) C 2 dL_law_861 rfl rfl ?_
  refine r_aload_n (pc := 862) C 0 dL_law_862 rfl rfl ?_
  refine r_iload_n (pc := 863) C 3 dL_law_863 rfl rfl ?_
  refine r_iconst (pc := 864) C dL_law_864 ?_
  refine r_iadd (pc := 865) C dL_law_865 ?_
  refine r_sld (pc := 866) C hX hbl hbA hL dL_law_866 (by omega) ?_
  refine r_aload_n (pc := 867) C 0 dL_law_867 rfl rfl ?_
  refine r_iload_n (pc := 868) C 3 dL_law_868 rfl rfl ?_
  refine r_iconst (pc := 869) C dL_law_869 ?_
  refine r_iadd (pc := 870) C dL_law_870 ?_
  refine r_sld (pc := 871) C hX hbl hbA hL dL_law_871 (by omega) ?_
  refine r_aload_n (pc := 872) C 0 dL_law_872 rfl rfl ?_
  refine r_iload_n (pc := 873) C 3 dL_law_873 rfl rfl ?_
  refine r_iconst (pc := 874) C dL_law_874 ?_
  refine r_iadd (pc := 875) C dL_law_875 ?_
  refine r_sld (pc := 876) C hX hbl hbA hL dL_law_876 (by omega) ?_
  refine r_callV (pc := 877) (is := [5, 6, 7, 8, 9, 10, 11, 12, 13]) C YX9_seeds dL_law_877 tw_1018 (c_X9_seeds l G _ _ _ _ _ _ (by first | exact xv_r _ _ | exact hr.it | exact hr.ir | exact hr.ix | exact hr.k | exact hr.ir.2.1 | exact hr.ir.2.2.2.1 | assumption | omega) (by first | exact xv_r _ _ | exact hr.it | exact hr.ir | exact hr.ix | exact hr.k | exact hr.ir.2.1 | exact hr.ir.2.2.2.1 | assumption | omega) (by first | exact xv_r _ _ | exact hr.it | exact hr.ir | exact hr.ix | exact hr.k | exact hr.ir.2.1 | exact hr.ir.2.2.2.1 | assumption | omega) (by first | exact xv_r _ _ | exact hr.it | exact hr.ir | exact hr.ix | exact hr.k | exact hr.ir.2.1 | exact hr.ir.2.2.2.1 | assumption | omega) (by first | exact xv_r _ _ | exact hr.it | exact hr.ir | exact hr.ix | exact hr.k | exact hr.ir.2.1 | exact hr.ir.2.2.2.1 | assumption | omega) (by first | exact xv_r _ _ | exact hr.it | exact hr.ir | exact hr.ix | exact hr.k | exact hr.ir.2.1 | exact hr.ir.2.2.2.1 | assumption | omega)) 5 0 rfl rfl (ci := 9) rfl rfl rfl (by decide) rfl rfl (Nat.le_of_ble_eq_true rfl) ⟨rfl, rfl, by decide, by decide⟩ (jst_i (W_u5_6_7_8_9_10_11_12_13 ..) ?_)
  simp only [zif_same]
  refine r_same (pc := 880) (tgt := 934) C dL_law_880 (by decide) rfl ?_
  exact nx _ _ _ _ _ _ (rl_up (rl_plain (qr_lo _ _ _ _ _) hr (fun _ => rl_r5 hr)))

set_option maxRecDepth 100000 in
set_option maxHeartbeats 4000000 in
theorem lw_c_image {K : KT} {l : Launch} {G : GT} {a b : Nat → Nat} {b0 L : Nat} {xs : Nat → Int32} {i : Int} {X M P S R T : Tn} (C : Cf K l G cL_law RL (some .boolean) room_1) (hX : va_X b0 L xs (ks K) (ks K).heap) (hbl : b0 < (ks K).heap.size) (hbA : ¬ kA K b0) (hL : L ≤ 2560) (hi : 0 ≤ i ∧ i + 5 ≤ L) (hr : Rl X S R P T) (nx : ∀ X' M' P' S' R' T' : Tn, Rl X' S' R' P' T' → Wc K G 934 [some (.ref b0), some (.ref (a 0)), some (.ref (b 0)), some (.int (iI i))] [] (wW G a b X' T' M' P' S' R' T')) : Wc K G 885 [some (.ref b0), some (.ref (a 0)), some (.ref (b 0)), some (.int (iI i))] [] (wW G a b X T M P S R T) := by
  refine r_aload_n (pc := 885) C 1 dL_law_885 rfl rfl ?_
  refine r_callV (pc := 886) (is := [0, 1, 2, 3, 4]) C YX8_image dL_law_886 tw_713 (c_X8_image l G _ _ _ _ _ _ (by first | exact xv_r _ _ | exact hr.it | exact hr.ir | exact hr.ix | exact hr.k | exact hr.ir.2.1 | exact hr.ir.2.2.2.1 | assumption | omega) (by first | exact xv_r _ _ | exact hr.it | exact hr.ir | exact hr.ix | exact hr.k | exact hr.ir.2.1 | exact hr.ir.2.2.2.1 | assumption | omega)) 0 0 rfl rfl (ci := 8) rfl rfl rfl (by decide) rfl rfl (Nat.le_of_ble_eq_true rfl) ⟨rfl, rfl, by decide, by decide⟩ (jst_i (W_u0_1_2_3_4 ..) ?_)
  refine r_aload_n (pc := 889) C 2 dL_law_889 rfl rfl ?_
  refine r_callV (pc := 890) (is := [5, 6, 7, 8, 9, 10, 11, 12, 13]) C YX9_image dL_law_890 tw_1025 (c_X9_image l G _ _ _ (by first | exact xv_r _ _ | exact hr.it | exact hr.ir | exact hr.ix | exact hr.k | exact hr.ir.2.1 | exact hr.ir.2.2.2.1 | assumption | omega) (by first | exact xv_r _ _ | exact hr.it | exact hr.ir | exact hr.ix | exact hr.k | exact hr.ir.2.1 | exact hr.ir.2.2.2.1 | assumption | omega)) 5 0 rfl rfl (ci := 9) rfl rfl rfl (by decide) rfl rfl (Nat.le_of_ble_eq_true rfl) ⟨rfl, rfl, by decide, by decide⟩ (jst_i (W_u5_6_7_8_9_10_11_12_13 ..) ?_)
  refine r_same (pc := 893) (tgt := 934) C dL_law_893 (by decide) rfl ?_
  exact nx _ _ _ _ _ _ (rl_image hr)

set_option maxRecDepth 100000 in
set_option maxHeartbeats 4000000 in
theorem lw_c_on {K : KT} {l : Launch} {G : GT} {a b : Nat → Nat} {b0 L : Nat} {xs : Nat → Int32} {i : Int} {X M P S R T : Tn} (C : Cf K l G cL_law RL (some .boolean) room_1) (hX : va_X b0 L xs (ks K) (ks K).heap) (hbl : b0 < (ks K).heap.size) (hbA : ¬ kA K b0) (hL : L ≤ 2560) (hi : 0 ≤ i ∧ i + 5 ≤ L) (hr : Rl X S R P T) (nx : ∀ X' M' P' S' R' T' : Tn, Rl X' S' R' P' T' → Wc K G 934 [some (.ref b0), some (.ref (a 0)), some (.ref (b 0)), some (.int (iI i))] [] (wW G a b X' T' M' P' S' R' T')) : Wc K G 898 [some (.ref b0), some (.ref (a 0)), some (.ref (b 0)), some (.int (iI i))] [] (wW G a b X T M P S R T) := by
  refine r_aload_n (pc := 898) C 1 dL_law_898 rfl rfl ?_
  refine r_callV (pc := 899) (is := [0, 1, 2, 3, 4]) C YX8_on dL_law_899 tw_717 (c_X8_on l G _ _ _ _ _ _ (by first | exact xv_r _ _ | exact hr.it | exact hr.ir | exact hr.ix | exact hr.k | exact hr.ir.2.1 | exact hr.ir.2.2.2.1 | assumption | omega) (by first | exact xv_r _ _ | exact hr.it | exact hr.ir | exact hr.ix | exact hr.k | exact hr.ir.2.1 | exact hr.ir.2.2.2.1 | assumption | omega)) 0 0 rfl rfl (ci := 8) rfl rfl rfl (by decide) rfl rfl (Nat.le_of_ble_eq_true rfl) ⟨rfl, rfl, by decide, by decide⟩ (jst_i (W_u0_1_2_3_4 ..) ?_)
  refine r_aload_n (pc := 902) C 2 dL_law_902 rfl rfl ?_
  refine r_callV (pc := 903) (is := [5, 6, 7, 8, 9, 10, 11, 12, 13]) C YX9_on dL_law_903 tw_1029 (c_X9_on l G _ _ _ P hr.it hr.ir (fun e => (hr.p e).1)) 5 0 rfl rfl (ci := 9) rfl rfl rfl (by decide) rfl rfl (Nat.le_of_ble_eq_true rfl) ⟨rfl, rfl, by decide, by decide⟩ (jst_i (W_u5_6_7_8_9_10_11_12_13 ..) ?_)
  rw [hr.x1]
  have r01 : ∀ hq : (if R 0 0 = 0 then (-3 : Int) else 0) = 0, R 0 0 = 1 := fun hq => by
    rcases hr.ir.1 with e | e
    · rw [if_pos e] at hq
      omega
    · exact e
  refine r_same (pc := 906) (tgt := 934) C dL_law_906 (by decide) rfl ?_
  exact nx _ _ _ _ _ _ (rl_zif (qr_on _) hr (fun hq => hr.to (hr.p (r01 hq)).2.1 (hr.p (r01 hq)).2.2))

set_option maxRecDepth 100000 in
set_option maxHeartbeats 4000000 in
theorem lw_c_count {K : KT} {l : Launch} {G : GT} {a b : Nat → Nat} {b0 L : Nat} {xs : Nat → Int32} {i : Int} {X M P S R T : Tn} (C : Cf K l G cL_law RL (some .boolean) room_1) (hX : va_X b0 L xs (ks K) (ks K).heap) (hbl : b0 < (ks K).heap.size) (hbA : ¬ kA K b0) (hL : L ≤ 2560) (hi : 0 ≤ i ∧ i + 5 ≤ L) (hr : Rl X S R P T) (nx : ∀ X' M' P' S' R' T' : Tn, Rl X' S' R' P' T' → Wc K G 934 [some (.ref b0), some (.ref (a 0)), some (.ref (b 0)), some (.int (iI i))] [] (wW G a b X' T' M' P' S' R' T')) : Wc K G 911 [some (.ref b0), some (.ref (a 0)), some (.ref (b 0)), some (.int (iI i))] [] (wW G a b X T M P S R T) := by
  refine r_aload_n (pc := 911) C 1 dL_law_911 rfl rfl ?_
  refine r_aload_n (pc := 912) C 0 dL_law_912 rfl rfl ?_
  refine r_iload_n (pc := 913) C 3 dL_law_913 rfl rfl ?_
  refine r_iconst (pc := 914) C dL_law_914 ?_
  refine r_iadd (pc := 915) C dL_law_915 ?_
  refine r_sld (pc := 916) C hX hbl hbA hL dL_law_916 (by omega) ?_
  refine r_callV (pc := 917) (is := [0, 1, 2, 3, 4]) C YX8_count dL_law_917 tw_721 (c_X8_count l G _ _ _ _ _ _ _ (by first | exact xv_r _ _ | exact hr.it | exact hr.ir | exact hr.ix | exact hr.k | exact hr.ir.2.1 | exact hr.ir.2.2.2.1 | assumption | omega) (by first | exact xv_r _ _ | exact hr.it | exact hr.ir | exact hr.ix | exact hr.k | exact hr.ir.2.1 | exact hr.ir.2.2.2.1 | assumption | omega) (by first | exact xv_r _ _ | exact hr.it | exact hr.ir | exact hr.ix | exact hr.k | exact hr.ir.2.1 | exact hr.ir.2.2.2.1 | assumption | omega)) 0 0 rfl rfl (ci := 8) rfl rfl rfl (by decide) rfl rfl (Nat.le_of_ble_eq_true rfl) ⟨rfl, rfl, by decide, by decide⟩ (jst_i (W_u0_1_2_3_4 ..) ?_)
  refine r_aload_n (pc := 920) C 2 dL_law_920 rfl rfl ?_
  refine r_aload_n (pc := 921) C 0 dL_law_921 rfl rfl ?_
  refine r_iload_n (pc := 922) C 3 dL_law_922 rfl rfl ?_
  refine r_iconst (pc := 923) C dL_law_923 ?_
  refine r_iadd (pc := 924) C dL_law_924 ?_
  refine r_sld (pc := 925) C hX hbl hbA hL dL_law_925 (by omega) ?_
  refine r_callV (pc := 926) (is := [5, 6, 7, 8, 9, 10, 11, 12, 13]) C YX9_count dL_law_926 tw_1033 (c_X9_count l G _ _ _ _ (by first | exact xv_r _ _ | exact hr.it | exact hr.ir | exact hr.ix | exact hr.k | exact hr.ir.2.1 | exact hr.ir.2.2.2.1 | assumption | omega) (by first | exact xv_r _ _ | exact hr.it | exact hr.ir | exact hr.ix | exact hr.k | exact hr.ir.2.1 | exact hr.ir.2.2.2.1 | assumption | omega) (by first | exact xv_r _ _ | exact hr.it | exact hr.ir | exact hr.ix | exact hr.k | exact hr.ir.2.1 | exact hr.ir.2.2.2.1 | assumption | omega)) 5 0 rfl rfl (ci := 9) rfl rfl rfl (by decide) rfl rfl (Nat.le_of_ble_eq_true rfl) ⟨rfl, rfl, by decide, by decide⟩ (jst_i (W_u5_6_7_8_9_10_11_12_13 ..) ?_)
  refine r_same (pc := 929) (tgt := 934) C dL_law_929 (by decide) (count_eq hr _) ?_
  exact nx _ _ _ _ _ _ hr

