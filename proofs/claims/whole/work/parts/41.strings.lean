/-! the literals, and what the JDK does with them -/
def sCh (j : Nat) (k : Int) : Int := ((bytJ.getD j []).getD k.toNat 0).toInt
theorem len_r : ∀ j : Nat, j < 6 → lenJ.getD j 0 ≤ 6 := by decide
theorem sCh_n : ∀ j : Nat, j < 6 → ∀ k : Nat, k < lenJ.getD j 0 → (0 ≤ sCh j (k : Int) ∧ sCh j (k : Int) < 128) ∧ zand (sCh j (k : Int)) 255 = sCh j (k : Int) := by decide +kernel
theorem sCh_r {j : Nat} {k : Int} (hj : j < 6) (hk : 0 ≤ k ∧ k < ((lenJ.getD j 0 : Nat) : Int)) : (0 ≤ sCh j k ∧ sCh j k < 128) ∧ zand (sCh j k) 255 = sCh j k := by
  have := sCh_n j hj k.toNat (by omega)
  rw [show (k.toNat : Int) = k by omega] at this
  exact this
def zbyt (a : Int) : Int := if a < 128 then a else a - 256
theorem iI_byt {a : Int} (h : 0 ≤ a ∧ a < 256) : (iI a).toInt8.toInt32 = iI (zbyt a) := by
  have H : ∀ n : Nat, n < 256 → (iI (n : Int)).toInt8.toInt32 = iI (zbyt (n : Int)) := by decide +kernel
  have := H a.toNat (by omega)
  rw [show (a.toNat : Int) = a by omega] at this
  exact this
theorem iI_ushr {a b : Int} (ha : 0 ≤ a ∧ a < 2147483648) (hb : 0 ≤ b ∧ b < 32) : ((iI a).toUInt32 >>> ((iI b).toUInt32 &&& Int32.toUInt32 31)).toInt32 = iI (a / zp2 b) := by
  obtain ⟨n, rfl⟩ : ∃ n : Nat, b = (n : Int) := ⟨b.toNat, by omega⟩
  have hn : n < 32 := by omega
  have H : ∀ n : Nat, n < 32 → ((iI (n : Int)).toUInt32 &&& Int32.toUInt32 31).toBitVec.toNat = n := by decide +kernel
  have h1 : (iI a).toBitVec.toNat = a.toNat := by
    have := iI_bvn a
    omega
  apply Int32.toBitVec.inj
  apply BitVec.eq_of_toNat_eq
  show (((iI a).toUInt32 >>> ((iI (n : Int)).toUInt32 &&& Int32.toUInt32 31)).toBitVec).toNat = _
  have h3 : 0 ≤ a / zp2 (n : Int) ∧ a / zp2 (n : Int) ≤ a := by
    have hp : 0 < zp2 (n : Int) := by
      unfold zp2
      exact Int.pow_pos (by decide)
    exact ⟨Int.ediv_nonneg ha.1 (by omega), Int.ediv_le_self _ ha.1⟩
  have h2 : ((iI (a / zp2 (n : Int))).toBitVec.toNat : Int) = a / zp2 (n : Int) := by
    rw [iI_bvn]
    omega
  have h4 : a / zp2 (n : Int) = ((a.toNat / 2 ^ n : Nat) : Int) := by
    unfold zp2
    rw [show ((n : Int)).toNat = n from rfl, Int.natCast_ediv, Int.natCast_pow, show ((a.toNat : Nat) : Int) = a by omega]
    rfl
  have h5 : (iI (a / zp2 (n : Int))).toBitVec.toNat = a.toNat / 2 ^ n := by omega
  rw [h5, UInt32.toBitVec_shiftRight]
  show ((iI a).toBitVec >>> (((iI (n : Int)).toUInt32 &&& Int32.toUInt32 31).toBitVec % 32)).toNat = _
  have h6 : (((iI (n : Int)).toUInt32 &&& Int32.toUInt32 31).toBitVec % 32).toNat = n := by
    rw [BitVec.toNat_umod, H n hn]
    exact Nat.mod_eq_of_lt hn
  rw [BitVec.ushiftRight_eq', BitVec.toNat_ushiftRight, h6, h1, Nat.shiftRight_eq_div_pow]
section
variable {K : KT} {l : Launch} {G : GT} {cc : ByteArray} {own : String} {ret : Option FieldType} {rm : Room} {pc : Nat} {vs : List (Option Value)} {st : List Value} {gs : List va_W}
theorem r_ldcS (C : Cf K l G cc RX5 ret rm) {idx : Nat} {tx : String} (hd : decode cc pc = .ok (.ldc idx, 2)) (j : Nat) (hj : litJ[j]? = some (idx, tx)) (k : Wc K G (pc + 2) vs (.ref (G.2.2.2.1 j) :: st) gs) : Wc K G pc vs st gs := by
  intro H locs ls hP hD hS hl
  exact va_ldcS C.x C.b C.o (C.z.2.1 j (idx, tx) hj) hd (k H locs ls hP hD hS hl)
theorem r_ldcw (C : Cf K l G cc own ret rm) {idx : Nat} {n : Int} {v : Int32} (hd : decode cc pc = .ok (.ldc_w idx, 3)) (hw : Cond.constant own idx v ∈ lw_g) (hv : v = iI n) (k : Wc K G (pc + 3) vs (.int (iI n) :: st) gs) : Wc K G pc vs st gs := by
  intro H locs ls hP hD hS hl
  exact lv_ldcw C.x C.b C.o (v := iI n) (by rw [← hv]; exact C.t _ hw) hd (k H locs ls hP hD hS hl)
theorem r_iushr (C : Cf K l G cc own ret rm) {a b : Int} (hd : decode cc pc = .ok (.iushr, 1)) (ha : 0 ≤ a ∧ a < 2147483648) (hb : 0 ≤ b ∧ b < 32) (k : Wc K G (pc + 1) vs (.int (iI (a / zp2 b)) :: st) gs) : Wc K G pc vs (.int (iI b) :: .int (iI a) :: st) gs := by
  intro H locs ls hP hD hS hl
  exact lv_iushr C.x C.b hd (iI_ushr ha hb) (k H locs ls hP hD hS hl)
theorem r_i2b (C : Cf K l G cc own ret rm) {a : Int} (hd : decode cc pc = .ok (.i2b, 1)) (ha : 0 ≤ a ∧ a < 256) (k : Wc K G (pc + 1) vs (.int (iI (zbyt a)) :: st) gs) : Wc K G pc vs (.int (iI a) :: st) gs := by
  intro H locs ls hP hD hS hl
  exact lv_i2b C.x C.b hd (iI_byt ha) (k H locs ls hP hD hS hl)
theorem r_gets (C : Cf K l G cc own ret rm) {idx : Nat} (hd : decode cc pc = .ok (.getstatic idx, 3)) (hw : Cond.fieldLink own idx "java/lang/String" "COMPACT_STRINGS" "Z" ∈ lw_g) (k : Wc K G (pc + 3) vs (.int (iI 1) :: st) gs) : Wc K G pc vs st gs := by
  intro H locs ls hP hD hS hl
  exact va_gets C.x C.b C.z.2.2.1 hS C.o (C.t _ hw) (fun x h => h) hd (k H locs ls hP hD hS hl)
theorem r_getsq (C : Cf K l G cc own ret rm) {idx : Nat} (hd : decode cc pc = .ok (.getstatic idx, 3)) (hw : Cond.fieldLink own idx "jdk/internal/util/Preconditions" "SIOOBE_FORMATTER" "Ljava/util/function/BiFunction;" ∈ lw_g) (kn : Wc K G (pc + 3) vs (.null :: st) gs) (kr : ∀ t : Nat, Wc K G (pc + 3) vs (.ref t :: st) gs) : Wc K G pc vs st gs := by
  intro H locs ls hP hD hS hl
  rcases C.z.2.2.2.1 with hZ | ⟨t, hZ⟩
  · exact va_gets C.x C.b hZ hS C.o (C.t _ hw) (fun x h => h) hd (kn H locs ls hP hD hS hl)
  · exact va_gets C.x C.b hZ hS C.o (C.t _ hw) (fun x h => h) hd (kr t H locs ls hP hD hS hl)
theorem r_sval (C : Cf K l G cc own ret rm) {idx : Nat} (hd : decode cc pc = .ok (.getfield idx, 3)) (j : Nat) (hj : j < 6) (hw : Cond.fieldLink own idx "java/lang/String" "value" "[B" ∈ lw_g) (k : Wc K G (pc + 3) vs (.ref (G.2.2.2.2 j) :: st) gs) : Wc K G pc vs (.ref (G.2.2.2.1 j) :: st) gs := by
  intro H locs ls hP hD hS hl
  exact vk_getf C.x C.b (C.z.1.1 j hj).2.2.1 hS C.o (C.t _ hw) (fun x h => h) hd (k H locs ls hP hD hS hl)
theorem r_scod (C : Cf K l G cc own ret rm) {idx : Nat} (hd : decode cc pc = .ok (.getfield idx, 3)) (j : Nat) (hj : j < 6) (hw : Cond.fieldLink own idx "java/lang/String" "coder" "B" ∈ lw_g) (k : Wc K G (pc + 3) vs (.int (iI 0) :: st) gs) : Wc K G pc vs (.ref (G.2.2.2.1 j) :: st) gs := by
  intro H locs ls hP hD hS hl
  exact vk_getf C.x C.b (C.z.1.1 j hj).2.1 hS C.o (C.t _ hw) (fun x h => h) hd (k H locs ls hP hD hS hl)
theorem r_blen (C : Cf K l G cc own ret rm) (hd : decode cc pc = .ok (.arraylength, 1)) (j : Nat) (hj : j < 6) {n : Int} (hn : ((lenJ.getD j 0 : Nat) : Int) = n) (k : Wc K G (pc + 1) vs (.int (iI n) :: st) gs) : Wc K G pc vs (.ref (G.2.2.2.2 j) :: st) gs := by
  intro H locs ls hP hD hS hl
  subst hn
  exact va_tlen C.x C.b (C.z.1.1 j hj).2.2.2 hS (iI_nat _).symm hd (k H locs ls hP hD hS hl)
theorem r_baload (C : Cf K l G cc own ret rm) {z v : Int} (hd : decode cc pc = .ok (.baload, 1)) (j : Nat) (hj : j < 6) (hz : 0 ≤ z ∧ z < ((lenJ.getD j 0 : Nat) : Int)) (hv : sCh j z = v) (k : Wc K G (pc + 1) vs (.int (iI v) :: st) gs) : Wc K G pc vs (.int (iI z) :: .ref (G.2.2.2.2 j) :: st) gs := by
  intro H locs ls hP hD hS hl
  subst hv
  have hl6 := len_r j hj
  refine va_tb C.x C.b (C.z.1.1 j hj).2.2.2 hS (iI_in hz (by omega)) ?_ hd (k H locs ls hP hD hS hl)
  rw [iI_clamp (by omega)]
  unfold sCh
  rw [iI_asI]
theorem r_nret {ty : FieldType} (C : Cf K l G cc own (some ty) rm) {gs0 : List va_W} {Post : Option Value → List va_W → Prop} (hq : Rq K G gs0 Post) {a : Int} (hd : decode cc pc = .ok (.ireturn, 1)) (ha : narrow ty (.int (iI a)) = .int (iI a)) (hs : shp gs = shp gs0) (h : Post (some (.int (iI a))) gs) : Wc K G pc vs [.int (iI a)] gs := by
  intro H locs ls hP hD hS hl
  obtain ⟨h1, h2⟩ := hq.end h hs hP hS
  rw [hq.1, hq.2.2.1, hq.2.2.2]
  exact W.zret C.x C.b C.r ha h1 h2 hd C.lk
theorem nar_ch {a : Int} (h : 0 ≤ a ∧ a < 65536) : narrow .char (.int (iI a)) = .int (iI a) := by
  have := (pk_charN (q := a.toNat) (by omega)).1
  rw [← iI_nat, show (a.toNat : Int) = a by omega] at this
  exact this
end
section
variable {K : KT} {l : Launch} {G : GT} {cc : ByteArray} {own : String} {ret : Option FieldType} {rm : Room} {pc : Nat} {vs : List (Option Value)} {st0 rest : List Value} {gs gsc : List va_W}
/-- invokevirtual of a literal's own method -/
theorem r_callVS (C : Cf K l G cc own ret rm) {y : MethodName} {bytes : ByteArray} {maxL n idx : Nat} {rt : Option FieldType} {rmc : Room} {As : List Value} {is : List Nat} {Post : Option Value → List va_W → Prop} (Y : YV y bytes maxL rt n) (hd : decode cc pc = .ok (.invokevirtual idx, 3)) (hw : Cond.methodLink own idx y ∈ lw_g) {j : Nat} (hM : Cn l y bytes maxL rt rmc G (.ref (G.2.2.2.1 j) :: As) gsc Post) (j0 : Nat) (hj : j < 6) (hC0 : y.cls = "java/lang/String") (hsub : is.map (fun i => gs[i]?) = gsc.map some) (hnd : is.Nodup) (hn : As.length = n) (hst : st0 = As.reverse ++ .ref (G.2.2.2.1 j) :: rest) (hro : (rest.map fun v => v.category).sum ≤ 8) (hrm : rmc.cells = 0 ∧ rmc.slots = 0 ∧ rmc.frames + 1 ≤ rm.frames ∧ 8 + (maxL + 11) + rmc.locals ≤ rm.locals)
    (kk : ∀ (v : Option Value) (gs' : List va_W), Post v gs' → shp gs' = shp gsc → Wc K G (pc + 3) vs (v.toList ++ rest) (ups gs is gs')) : Wc K G pc vs st0 gs := by
  obtain ⟨YB0, Y2, Y3⟩ := Y
  subst hst
  refine call_core (a := (Value.ref (G.2.2.2.1 j) :: As).toArray) hsub hnd (fun H locs ls hP hD hS hl => ?_) kk
  have hpre := pre_sub (av := .ref (G.2.2.2.1 j) :: As) C hsub hnd hP hD hS
  have hM' : Met (kl K) y (wU y bytes maxL rt) rmc (Pcn G (.ref (G.2.2.2.1 j) :: As) gsc) (Qcn G gsc Post) 0 0 (Ad gsc) := by rw [C.la]; exact hM
  refine va_runV (C := "java/lang/String") (fixC C) hM' ⟨⟨hrm.1, hrm.2.1, ?_, ?_, pay_in C.t YB0.good, List.mem_cons_self, C.t _ YB0.1, C.t _ YB0.2.1, YB0.2.2.1, YB0.len, C.t _ hw⟩, C.t _ Y2, by rw [← hC0]; exact C.t _ Y3⟩ ⟨hpre.1, vk_recv C.z.1 hj hS, hpre.2⟩ rfl hn hl.1 rfl (lv_room hro) hd ?_
  · rw [C.R]; exact hrm.2.2.1
  · rw [C.R]; exact hrm.2.2.2
  · rw [C.R]; exact C.n
end
def sKx (c : Int) : Int := if c = 100 then 0 else if c = 111 then 1 else if c = 121 then 2 else if c = 115 then 3 else if c = 98 then 4 else if c = 116 then 5 else -1
theorem sKx_k (c : Int) : (sKx c = sKind c ∧ 0 ≤ sKind c) ∨ (sKx c = -1 ∧ sKind c = -9) := by
  unfold sKx sKind
  (repeat' split) <;> omega
set_option maxRecDepth 100000 in
set_option maxHeartbeats 4000000 in
theorem c_J0_coder_7d493 (l : Launch) (G : GT) (j : Nat) (hj : j < 6) : Cn l yJ0_coder_7d493 cJ0_coder_7d493 1 (Option.some .byte) ({ frames := 0, cells := 0, slots := 0, locals := 0 }) G [.ref (G.2.2.2.1 j)] (w0) (jst (some (.int (iI (0)))) (w0)) := by
  refine Cn_in RJ0 [some (.ref (G.2.2.2.1 j))] (by decide +kernel) rfl rfl rfl (Nat.le_of_ble_eq_true rfl) (fun K C hQ => ?_)
  refine r_gets (pc := 0) C dJ0_coder_7d493_0 tw_234 ?_
  refine r_if_eq (pc := 3) (tgt := 13) C dJ0_coder_7d493_3 (by decide) (by first | omega | exact zand_rng _ _ | exact zor_rng _ _ | exact zxor_rng _ _ | exact BT.r (IT.b (by assumption)) _ _) (fun c3 => absurd c3 (by omega)) (fun c3 => ?_)
  refine r_aload_n (pc := 6) C 0 dJ0_coder_7d493_6 rfl rfl ?_
  refine r_scod (pc := 7) C dJ0_coder_7d493_7 j (by first | assumption | decide | omega) tw_1045 ?_
  refine r_goto (pc := 10) (tgt := 14) C dJ0_coder_7d493_10 (by decide) ?_
  exact r_nret (pc := 14) C hQ dJ0_coder_7d493_14 (by rfl) rfl (jst_ri (by rfl) rfl)

set_option maxRecDepth 100000 in
set_option maxHeartbeats 4000000 in
theorem c_J0_isLatin1_aae02 (l : Launch) (G : GT) (j : Nat) (hj : j < 6) : Cn l yJ0_isLatin1_aae02 cJ0_isLatin1_aae02 1 (Option.some .boolean) ({ frames := 0, cells := 0, slots := 0, locals := 0 }) G [.ref (G.2.2.2.1 j)] (w0) (jst (some (.int (iI (1)))) (w0)) := by
  refine Cn_in RJ0 [some (.ref (G.2.2.2.1 j))] (by decide +kernel) rfl rfl rfl (Nat.le_of_ble_eq_true rfl) (fun K C hQ => ?_)
  refine r_gets (pc := 0) C dJ0_isLatin1_aae02_0 tw_234 ?_
  refine r_if_eq (pc := 3) (tgt := 17) C dJ0_isLatin1_aae02_3 (by decide) (by first | omega | exact zand_rng _ _ | exact zor_rng _ _ | exact zxor_rng _ _ | exact BT.r (IT.b (by assumption)) _ _) (fun c3 => absurd c3 (by omega)) (fun c3 => ?_)
  refine r_aload_n (pc := 6) C 0 dJ0_isLatin1_aae02_6 rfl rfl ?_
  refine r_scod (pc := 7) C dJ0_isLatin1_aae02_7 j (by first | assumption | decide | omega) tw_1045 ?_
  refine r_if_ne (pc := 10) (tgt := 17) C dJ0_isLatin1_aae02_10 (by decide) (by first | omega | exact zand_rng _ _ | exact zor_rng _ _ | exact zxor_rng _ _ | exact BT.r (IT.b (by assumption)) _ _) (fun c10 => absurd c10 (by omega)) (fun c10 => ?_)
  refine r_iconst (pc := 13) C dJ0_isLatin1_aae02_13 ?_
  refine r_goto (pc := 14) (tgt := 18) C dJ0_isLatin1_aae02_14 (by decide) ?_
  exact r_zret (pc := 18) C hQ dJ0_isLatin1_aae02_18 (by decide) rfl (jst_ri (by rfl) rfl)

set_option maxRecDepth 100000 in
set_option maxHeartbeats 4000000 in
theorem c_J0_length_8abf5 (l : Launch) (G : GT) (j : Nat) (hj : j < 6) : Cn l yJ0_length_8abf5 cJ0_length_8abf5 1 (Option.some .int) ({ frames := 1, cells := 0, slots := 0, locals := 20 }) G [.ref (G.2.2.2.1 j)] (w0) (jst (some (.int (iI (((lenJ.getD j 0 : Nat) : Int))))) (w0)) := by
  refine Cn_in RJ0 [some (.ref (G.2.2.2.1 j))] (by decide +kernel) rfl rfl rfl (Nat.le_of_ble_eq_true rfl) (fun K C hQ => ?_)
  have hl6 := len_r j hj
  refine r_aload_n (pc := 0) C 0 dJ0_length_8abf5_0 rfl rfl ?_
  refine r_sval (pc := 1) C dJ0_length_8abf5_1 j (by first | assumption | decide | omega) tw_1044 ?_
  refine r_blen (pc := 4) C dJ0_length_8abf5_4 j (by first | assumption | decide | omega) (n := ((lenJ.getD j 0 : Nat) : Int)) rfl ?_
  refine r_aload_n (pc := 5) C 0 dJ0_length_8abf5_5 rfl rfl ?_
  refine r_callVS (pc := 6) (is := []) C YJ0_coder_7d493 dJ0_length_8abf5_6 tw_230 (c_J0_coder_7d493 l G _ (by first | assumption | omega | exact zand_rng _ _ | exact zor_rng _ _ | exact zxor_rng _ _ | exact BT.r (IT.b (by assumption)) _ _)) j (by first | assumption | decide | omega) rfl rfl (by decide) rfl rfl (Nat.le_of_ble_eq_true rfl) ⟨rfl, rfl, by decide, by decide⟩ (jst_i (ups_nil _) ?_)
  refine r_ishr (pc := 9) C dJ0_length_8abf5_9 (by first | omega | exact zand_rng _ _ | exact zor_rng _ _ | exact zxor_rng _ _ | exact BT.r (IT.b (by assumption)) _ _) (by omega) ?_
  exact r_iret (pc := 10) C hQ dJ0_length_8abf5_10 rfl (jst_ri (by rw [show zp2 0 = 1 from rfl, Int.ediv_one]) rfl)

set_option maxRecDepth 100000 in
set_option maxHeartbeats 4000000 in
theorem c_J0_isEmpty_aae02 (l : Launch) (G : GT) (j : Nat) (hj : j < 6) : Cn l yJ0_isEmpty_aae02 cJ0_isEmpty_aae02 1 (Option.some .boolean) ({ frames := 0, cells := 0, slots := 0, locals := 0 }) G [.ref (G.2.2.2.1 j)] (w0) (jst (some (.int (iI (zb (((lenJ.getD j 0 : Nat) : Int) = 0))))) (w0)) := by
  refine Cn_in RJ0 [some (.ref (G.2.2.2.1 j))] (by decide +kernel) rfl rfl rfl (Nat.le_of_ble_eq_true rfl) (fun K C hQ => ?_)
  have hl6 := len_r j hj
  refine r_aload_n (pc := 0) C 0 dJ0_isEmpty_aae02_0 rfl rfl ?_
  refine r_sval (pc := 1) C dJ0_isEmpty_aae02_1 j (by first | assumption | decide | omega) tw_1044 ?_
  refine r_blen (pc := 4) C dJ0_isEmpty_aae02_4 j (by first | assumption | decide | omega) (n := ((lenJ.getD j 0 : Nat) : Int)) rfl ?_
  refine r_if_ne (pc := 5) (tgt := 12) C dJ0_isEmpty_aae02_5 (by decide) (by first | omega | exact zand_rng _ _ | exact zor_rng _ _ | exact zxor_rng _ _ | exact BT.r (IT.b (by assumption)) _ _) (fun c5 => ?_) (fun c5 => ?_)
  · refine r_iconst (pc := 12) C dJ0_isEmpty_aae02_12 ?_
    exact r_zret (pc := 13) C hQ dJ0_isEmpty_aae02_13 (by decide) rfl (jst_ri (by exact (zb_f (by omega)).symm) rfl)
  · refine r_iconst (pc := 8) C dJ0_isEmpty_aae02_8 ?_
    refine r_goto (pc := 9) (tgt := 13) C dJ0_isEmpty_aae02_9 (by decide) ?_
    exact r_zret (pc := 13) C hQ dJ0_isEmpty_aae02_13 (by decide) rfl (jst_ri (by exact (zb_t (by omega)).symm) rfl)

set_option maxRecDepth 100000 in
set_option maxHeartbeats 4000000 in
theorem c_J3_checkIndexN (l : Launch) (G : GT) (i n : Int) (hi : 0 ≤ i ∧ i < n) (hn : n < 2147483648) : Cn l yJ3_checkIndex_8e157 cJ3_checkIndex_8e157 3 (Option.some .int) ({ frames := 0, cells := 0, slots := 0, locals := 0 }) G [.int (iI i), .int (iI n), .null] (w0) (jst (some (.int (iI (i)))) (w0)) := by
  refine Cn_in RJ3 [some (.int (iI i)), some (.int (iI n)), some (.null)] (by decide +kernel) rfl rfl rfl (Nat.le_of_ble_eq_true rfl) (fun K C hQ => ?_)
  refine r_iload_n (pc := 0) C 0 dJ3_checkIndex_8e157_0 rfl rfl ?_
  refine r_if_lt (pc := 1) (tgt := 9) C dJ3_checkIndex_8e157_1 (by decide) (by first | omega | exact zand_rng _ _ | exact zor_rng _ _ | exact zxor_rng _ _ | exact BT.r (IT.b (by assumption)) _ _) (fun c1 => absurd c1 (by omega)) (fun c1 => ?_)
  refine r_iload_n (pc := 4) C 0 dJ3_checkIndex_8e157_4 rfl rfl ?_
  refine r_iload_n (pc := 5) C 1 dJ3_checkIndex_8e157_5 rfl rfl ?_
  refine r_icmp_lt (pc := 6) (tgt := 16) C dJ3_checkIndex_8e157_6 (by decide) (by first | omega | exact zand_rng _ _ | exact zor_rng _ _ | exact zxor_rng _ _ | exact BT.r (IT.b (by assumption)) _ _) (by first | omega | exact zand_rng _ _ | exact zor_rng _ _ | exact zxor_rng _ _ | exact BT.r (IT.b (by assumption)) _ _) (fun c6 => ?_) (fun c6 => absurd c6 (by omega))
  refine r_iload_n (pc := 16) C 0 dJ3_checkIndex_8e157_16 rfl rfl ?_
  exact r_iret (pc := 17) C hQ dJ3_checkIndex_8e157_17 rfl (jst_ri (by rfl) rfl)

set_option maxRecDepth 100000 in
set_option maxHeartbeats 4000000 in
theorem c_J3_checkIndexR (l : Launch) (G : GT) (i n : Int) (t : Nat) (hi : 0 ≤ i ∧ i < n) (hn : n < 2147483648) : Cn l yJ3_checkIndex_8e157 cJ3_checkIndex_8e157 3 (Option.some .int) ({ frames := 0, cells := 0, slots := 0, locals := 0 }) G [.int (iI i), .int (iI n), .ref t] (w0) (jst (some (.int (iI (i)))) (w0)) := by
  refine Cn_in RJ3 [some (.int (iI i)), some (.int (iI n)), some (.ref t)] (by decide +kernel) rfl rfl rfl (Nat.le_of_ble_eq_true rfl) (fun K C hQ => ?_)
  refine r_iload_n (pc := 0) C 0 dJ3_checkIndex_8e157_0 rfl rfl ?_
  refine r_if_lt (pc := 1) (tgt := 9) C dJ3_checkIndex_8e157_1 (by decide) (by first | omega | exact zand_rng _ _ | exact zor_rng _ _ | exact zxor_rng _ _ | exact BT.r (IT.b (by assumption)) _ _) (fun c1 => absurd c1 (by omega)) (fun c1 => ?_)
  refine r_iload_n (pc := 4) C 0 dJ3_checkIndex_8e157_4 rfl rfl ?_
  refine r_iload_n (pc := 5) C 1 dJ3_checkIndex_8e157_5 rfl rfl ?_
  refine r_icmp_lt (pc := 6) (tgt := 16) C dJ3_checkIndex_8e157_6 (by decide) (by first | omega | exact zand_rng _ _ | exact zor_rng _ _ | exact zxor_rng _ _ | exact BT.r (IT.b (by assumption)) _ _) (by first | omega | exact zand_rng _ _ | exact zor_rng _ _ | exact zxor_rng _ _ | exact BT.r (IT.b (by assumption)) _ _) (fun c6 => ?_) (fun c6 => absurd c6 (by omega))
  refine r_iload_n (pc := 16) C 0 dJ3_checkIndex_8e157_16 rfl rfl ?_
  exact r_iret (pc := 17) C hQ dJ3_checkIndex_8e157_17 rfl (jst_ri (by rfl) rfl)

set_option maxRecDepth 100000 in
set_option maxHeartbeats 4000000 in
theorem c_J0_checkIndex_df160 (l : Launch) (G : GT) (i n : Int) (hi : 0 ≤ i ∧ i < n) (hn : n < 2147483648) : Cn l yJ0_checkIndex_df160 cJ0_checkIndex_df160 2 none ({ frames := 1, cells := 0, slots := 0, locals := 22 }) G [.int (iI i), .int (iI n)] (w0) (jst none (w0)) := by
  refine Cn_in RJ0 [some (.int (iI i)), some (.int (iI n))] (by decide +kernel) rfl rfl rfl (Nat.le_of_ble_eq_true rfl) (fun K C hQ => ?_)
  refine r_iload_n (pc := 0) C 0 dJ0_checkIndex_df160_0 rfl rfl ?_
  refine r_iload_n (pc := 1) C 1 dJ0_checkIndex_df160_1 rfl rfl ?_
  refine r_getsq (pc := 2) C dJ0_checkIndex_df160_2 tw_250 ?_ (fun t => ?_)
  · refine r_callS (pc := 5) (is := []) C YJ3_checkIndex_8e157 dJ0_checkIndex_df160_5 tw_252 (c_J3_checkIndexN l G _ _ (by omega) (by omega)) rfl (by decide) rfl rfl (Nat.le_of_ble_eq_true rfl) ⟨rfl, rfl, by decide, by decide⟩ (jst_i (ups_nil _) ?_)
    refine r_pop (pc := 8) C dJ0_checkIndex_df160_8 rfl ?_
    exact r_vret (pc := 9) C hQ dJ0_checkIndex_df160_9 rfl (jst_rv rfl)
  · refine r_callS (pc := 5) (is := []) C YJ3_checkIndex_8e157 dJ0_checkIndex_df160_5 tw_252 (c_J3_checkIndexR l G _ _ t (by omega) (by omega)) rfl (by decide) rfl rfl (Nat.le_of_ble_eq_true rfl) ⟨rfl, rfl, by decide, by decide⟩ (jst_i (ups_nil _) ?_)
    refine r_pop (pc := 8) C dJ0_checkIndex_df160_8 rfl ?_
    exact r_vret (pc := 9) C hQ dJ0_checkIndex_df160_9 rfl (jst_rv rfl)

set_option maxRecDepth 100000 in
set_option maxHeartbeats 4000000 in
theorem c_J1_charAt_3b067 (l : Launch) (G : GT) (j : Nat) (k : Int) (hj : j < 6) (hk : 0 ≤ k ∧ k < ((lenJ.getD j 0 : Nat) : Int)) : Cn l yJ1_charAt_3b067 cJ1_charAt_3b067 2 (Option.some .char) ({ frames := 2, cells := 0, slots := 0, locals := 43 }) G [.ref (G.2.2.2.2 j), .int (iI k)] (w0) (jst (some (.int (iI (sCh j k)))) (w0)) := by
  refine Cn_in RJ1 [some (.ref (G.2.2.2.2 j)), some (.int (iI k))] (by decide +kernel) rfl rfl rfl (Nat.le_of_ble_eq_true rfl) (fun K C hQ => ?_)
  have hl6 := len_r j hj
  have hch := sCh_r hj hk
  refine r_iload_n (pc := 0) C 1 dJ1_charAt_3b067_0 rfl rfl ?_
  refine r_aload_n (pc := 1) C 0 dJ1_charAt_3b067_1 rfl rfl ?_
  refine r_blen (pc := 2) C dJ1_charAt_3b067_2 j (by first | assumption | decide | omega) (n := ((lenJ.getD j 0 : Nat) : Int)) rfl ?_
  refine r_callS (pc := 3) (is := []) C YJ0_checkIndex_df160 dJ1_charAt_3b067_3 tw_247 (c_J0_checkIndex_df160 l G _ _ (by first | assumption | omega | exact zand_rng _ _ | exact zor_rng _ _ | exact zxor_rng _ _ | exact BT.r (IT.b (by assumption)) _ _) (by first | assumption | omega | exact zand_rng _ _ | exact zor_rng _ _ | exact zxor_rng _ _ | exact BT.r (IT.b (by assumption)) _ _)) rfl (by decide) rfl rfl (Nat.le_of_ble_eq_true rfl) ⟨rfl, rfl, by decide, by decide⟩ (jst_v (ups_nil _) ?_)
  refine r_aload_n (pc := 6) C 0 dJ1_charAt_3b067_6 rfl rfl ?_
  refine r_iload_n (pc := 7) C 1 dJ1_charAt_3b067_7 rfl rfl ?_
  refine r_baload (pc := 8) C dJ1_charAt_3b067_8 j (by first | assumption | decide | omega) (by omega) (by rfl) ?_
  refine r_sipush (pc := 9) C dJ1_charAt_3b067_9 (by decide) ?_
  refine r_iand (pc := 12) C dJ1_charAt_3b067_12 ?_
  refine r_i2c (pc := 13) C dJ1_charAt_3b067_13 (by omega) ?_
  exact r_nret (pc := 14) C hQ dJ1_charAt_3b067_14 (by exact nar_ch (by omega)) rfl (jst_ri (by exact hch.2) rfl)

set_option maxRecDepth 100000 in
set_option maxHeartbeats 4000000 in
theorem c_J0_charAt_5068e (l : Launch) (G : GT) (j : Nat) (k : Int) (hj : j < 6) (hk : 0 ≤ k ∧ k < ((lenJ.getD j 0 : Nat) : Int)) : Cn l yJ0_charAt_5068e cJ0_charAt_5068e 2 (Option.some .char) ({ frames := 4, cells := 0, slots := 0, locals := 85 }) G [.ref (G.2.2.2.1 j), .int (iI k)] (w0) (jst (some (.int (iI (sCh j k)))) (w0)) := by
  refine Cn_in RJ0 [some (.ref (G.2.2.2.1 j)), some (.int (iI k))] (by decide +kernel) rfl rfl rfl (Nat.le_of_ble_eq_true rfl) (fun K C hQ => ?_)
  have hl6 := len_r j hj
  have hch := sCh_r hj hk
  refine r_aload_n (pc := 0) C 0 dJ0_charAt_5068e_0 rfl rfl ?_
  refine r_callVS (pc := 1) (is := []) C YJ0_isLatin1_aae02 dJ0_charAt_5068e_1 tw_240 (c_J0_isLatin1_aae02 l G _ (by first | assumption | omega | exact zand_rng _ _ | exact zor_rng _ _ | exact zxor_rng _ _ | exact BT.r (IT.b (by assumption)) _ _)) j (by first | assumption | decide | omega) rfl rfl (by decide) rfl rfl (Nat.le_of_ble_eq_true rfl) ⟨rfl, rfl, by decide, by decide⟩ (jst_i (ups_nil _) ?_)
  refine r_if_eq (pc := 4) (tgt := 16) C dJ0_charAt_5068e_4 (by decide) (by first | omega | exact zand_rng _ _ | exact zor_rng _ _ | exact zxor_rng _ _ | exact BT.r (IT.b (by assumption)) _ _) (fun c4 => absurd c4 (by omega)) (fun c4 => ?_)
  refine r_aload_n (pc := 7) C 0 dJ0_charAt_5068e_7 rfl rfl ?_
  refine r_sval (pc := 8) C dJ0_charAt_5068e_8 j (by first | assumption | decide | omega) tw_1044 ?_
  refine r_iload_n (pc := 11) C 1 dJ0_charAt_5068e_11 rfl rfl ?_
  refine r_callS (pc := 12) (is := []) C YJ1_charAt_3b067 dJ0_charAt_5068e_12 tw_244 (c_J1_charAt_3b067 l G _ _ (by first | assumption | omega | exact zand_rng _ _ | exact zor_rng _ _ | exact zxor_rng _ _ | exact BT.r (IT.b (by assumption)) _ _) (by first | assumption | omega | exact zand_rng _ _ | exact zor_rng _ _ | exact zxor_rng _ _ | exact BT.r (IT.b (by assumption)) _ _)) rfl (by decide) rfl rfl (Nat.le_of_ble_eq_true rfl) ⟨rfl, rfl, by decide, by decide⟩ (jst_i (ups_nil _) ?_)
  exact r_nret (pc := 15) C hQ dJ0_charAt_5068e_15 (by exact nar_ch (by omega)) rfl (jst_ri (by rfl) rfl)

set_option maxRecDepth 100000 in
set_option maxHeartbeats 4000000 in
theorem c_J1_canEncode_9a6ad (l : Launch) (G : GT) (c : Int) (hc : 0 ≤ c ∧ c ≤ 255) : Cn l yJ1_canEncode_9a6ad cJ1_canEncode_9a6ad 1 (Option.some .boolean) ({ frames := 0, cells := 0, slots := 0, locals := 0 }) G [.int (iI c)] (w0) (jst (some (.int (iI (1)))) (w0)) := by
  refine Cn_in RJ1 [some (.int (iI c))] (by decide +kernel) rfl rfl rfl (Nat.le_of_ble_eq_true rfl) (fun K C hQ => ?_)
  refine r_iload_n (pc := 0) C 0 dJ1_canEncode_9a6ad_0 rfl rfl ?_
  refine r_if_lt (pc := 1) (tgt := 15) C dJ1_canEncode_9a6ad_1 (by decide) (by first | omega | exact zand_rng _ _ | exact zor_rng _ _ | exact zxor_rng _ _ | exact BT.r (IT.b (by assumption)) _ _) (fun c1 => absurd c1 (by omega)) (fun c1 => ?_)
  refine r_iload_n (pc := 4) C 0 dJ1_canEncode_9a6ad_4 rfl rfl ?_
  refine r_sipush (pc := 5) C dJ1_canEncode_9a6ad_5 (by decide) ?_
  refine r_icmp_gt (pc := 8) (tgt := 15) C dJ1_canEncode_9a6ad_8 (by decide) (by first | omega | exact zand_rng _ _ | exact zor_rng _ _ | exact zxor_rng _ _ | exact BT.r (IT.b (by assumption)) _ _) (by first | omega | exact zand_rng _ _ | exact zor_rng _ _ | exact zxor_rng _ _ | exact BT.r (IT.b (by assumption)) _ _) (fun c8 => absurd c8 (by omega)) (fun c8 => ?_)
  refine r_iconst (pc := 11) C dJ1_canEncode_9a6ad_11 ?_
  refine r_goto (pc := 12) (tgt := 16) C dJ1_canEncode_9a6ad_12 (by decide) ?_
  exact r_zret (pc := 16) C hQ dJ1_canEncode_9a6ad_16 (by decide) rfl (jst_ri (by rfl) rfl)

set_option maxRecDepth 100000 in
set_option maxHeartbeats 4000000 in
theorem c_J1_indexOfChar_4cfef (l : Launch) (G : GT) (c : Int) (hc : 0 ≤ c ∧ c ≤ 255) : Cn l yJ1_indexOfChar_4cfef cJ1_indexOfChar_4cfef 6 (Option.some .int) ({ frames := 0, cells := 0, slots := 0, locals := 0 }) G [.ref (G.2.2.2.2 5), .int (iI c), .int (iI 0), .int (iI 6)] (w0) (jst (some (.int (iI (sKx c)))) (w0)) := by
  refine Cn_in RJ1 [some (.ref (G.2.2.2.2 5)), some (.int (iI c)), some (.int (iI 0)), some (.int (iI 6)), none, none] (by decide +kernel) rfl rfl rfl (Nat.le_of_ble_eq_true rfl) (fun K C hQ => ?_)
  have hzb : zbyt c = if c < 128 then c else c - 256 := rfl
  have hzb2 : (c < 128 ∧ zbyt c = c) ∨ (128 ≤ c ∧ zbyt c = c - 256) := by
    rw [hzb]; split <;> omega
  refine r_iload_n (pc := 0) C 1 dJ1_indexOfChar_4cfef_0 rfl rfl ?_
  refine r_i2b (pc := 1) C dJ1_indexOfChar_4cfef_1 (by omega) ?_
  refine r_istore (pc := 2) C dJ1_indexOfChar_4cfef_2 (Nat.le_of_ble_eq_true rfl) ?_
  refine r_iload_n (pc := 4) C 2 dJ1_indexOfChar_4cfef_4 rfl rfl ?_
  refine r_istore (pc := 5) C dJ1_indexOfChar_4cfef_5 (Nat.le_of_ble_eq_true rfl) ?_
  refine r_iload (pc := 7) C dJ1_indexOfChar_4cfef_7 rfl ?_
  refine r_iload_n (pc := 9) C 3 dJ1_indexOfChar_4cfef_9 rfl rfl ?_
  refine r_icmp_ge (pc := 10) (tgt := 31) C dJ1_indexOfChar_4cfef_10 (by decide) (by first | omega | exact zand_rng _ _ | exact zor_rng _ _ | exact zxor_rng _ _ | exact BT.r (IT.b (by assumption)) _ _) (by first | omega | exact zand_rng _ _ | exact zor_rng _ _ | exact zxor_rng _ _ | exact BT.r (IT.b (by assumption)) _ _) (fun c10 => absurd c10 (by omega)) (fun c10 => ?_)
  refine r_aload_n (pc := 13) C 0 dJ1_indexOfChar_4cfef_13 rfl rfl ?_
  refine r_iload (pc := 14) C dJ1_indexOfChar_4cfef_14 rfl ?_
  refine r_baload (pc := 16) C dJ1_indexOfChar_4cfef_16 5 (by first | assumption | decide | omega) (by show 0 ≤ _ ∧ _ < (6 : Int); omega) (by show sCh 5 _ = 100; rfl) ?_
  refine r_iload (pc := 17) C dJ1_indexOfChar_4cfef_17 rfl ?_
  refine r_icmp_ne (pc := 19) (tgt := 25) C dJ1_indexOfChar_4cfef_19 (by decide) (by first | omega | exact zand_rng _ _ | exact zor_rng _ _ | exact zxor_rng _ _ | exact BT.r (IT.b (by assumption)) _ _) (by first | omega | exact zand_rng _ _ | exact zor_rng _ _ | exact zxor_rng _ _ | exact BT.r (IT.b (by assumption)) _ _) (fun c19 => ?_) (fun c19 => ?_)
  · refine r_iinc (pc := 25) C dJ1_indexOfChar_4cfef_25 rfl ?_
    refine r_goto (pc := 28) (tgt := 7) C dJ1_indexOfChar_4cfef_28 (by decide) ?_
    refine r_iload (pc := 7) C dJ1_indexOfChar_4cfef_7 rfl ?_
    refine r_iload_n (pc := 9) C 3 dJ1_indexOfChar_4cfef_9 rfl rfl ?_
    refine r_icmp_ge (pc := 10) (tgt := 31) C dJ1_indexOfChar_4cfef_10 (by decide) (by first | omega | exact zand_rng _ _ | exact zor_rng _ _ | exact zxor_rng _ _ | exact BT.r (IT.b (by assumption)) _ _) (by first | omega | exact zand_rng _ _ | exact zor_rng _ _ | exact zxor_rng _ _ | exact BT.r (IT.b (by assumption)) _ _) (fun c10 => absurd c10 (by omega)) (fun c10 => ?_)
    refine r_aload_n (pc := 13) C 0 dJ1_indexOfChar_4cfef_13 rfl rfl ?_
    refine r_iload (pc := 14) C dJ1_indexOfChar_4cfef_14 rfl ?_
    refine r_baload (pc := 16) C dJ1_indexOfChar_4cfef_16 5 (by first | assumption | decide | omega) (by show 0 ≤ _ ∧ _ < (6 : Int); omega) (by show sCh 5 _ = 111; rfl) ?_
    refine r_iload (pc := 17) C dJ1_indexOfChar_4cfef_17 rfl ?_
    refine r_icmp_ne (pc := 19) (tgt := 25) C dJ1_indexOfChar_4cfef_19 (by decide) (by first | omega | exact zand_rng _ _ | exact zor_rng _ _ | exact zxor_rng _ _ | exact BT.r (IT.b (by assumption)) _ _) (by first | omega | exact zand_rng _ _ | exact zor_rng _ _ | exact zxor_rng _ _ | exact BT.r (IT.b (by assumption)) _ _) (fun c19 => ?_) (fun c19 => ?_)
    · refine r_iinc (pc := 25) C dJ1_indexOfChar_4cfef_25 rfl ?_
      refine r_goto (pc := 28) (tgt := 7) C dJ1_indexOfChar_4cfef_28 (by decide) ?_
      refine r_iload (pc := 7) C dJ1_indexOfChar_4cfef_7 rfl ?_
      refine r_iload_n (pc := 9) C 3 dJ1_indexOfChar_4cfef_9 rfl rfl ?_
      refine r_icmp_ge (pc := 10) (tgt := 31) C dJ1_indexOfChar_4cfef_10 (by decide) (by first | omega | exact zand_rng _ _ | exact zor_rng _ _ | exact zxor_rng _ _ | exact BT.r (IT.b (by assumption)) _ _) (by first | omega | exact zand_rng _ _ | exact zor_rng _ _ | exact zxor_rng _ _ | exact BT.r (IT.b (by assumption)) _ _) (fun c10 => absurd c10 (by omega)) (fun c10 => ?_)
      refine r_aload_n (pc := 13) C 0 dJ1_indexOfChar_4cfef_13 rfl rfl ?_
      refine r_iload (pc := 14) C dJ1_indexOfChar_4cfef_14 rfl ?_
      refine r_baload (pc := 16) C dJ1_indexOfChar_4cfef_16 5 (by first | assumption | decide | omega) (by show 0 ≤ _ ∧ _ < (6 : Int); omega) (by show sCh 5 _ = 121; rfl) ?_
      refine r_iload (pc := 17) C dJ1_indexOfChar_4cfef_17 rfl ?_
      refine r_icmp_ne (pc := 19) (tgt := 25) C dJ1_indexOfChar_4cfef_19 (by decide) (by first | omega | exact zand_rng _ _ | exact zor_rng _ _ | exact zxor_rng _ _ | exact BT.r (IT.b (by assumption)) _ _) (by first | omega | exact zand_rng _ _ | exact zor_rng _ _ | exact zxor_rng _ _ | exact BT.r (IT.b (by assumption)) _ _) (fun c19 => ?_) (fun c19 => ?_)
      · refine r_iinc (pc := 25) C dJ1_indexOfChar_4cfef_25 rfl ?_
        refine r_goto (pc := 28) (tgt := 7) C dJ1_indexOfChar_4cfef_28 (by decide) ?_
        refine r_iload (pc := 7) C dJ1_indexOfChar_4cfef_7 rfl ?_
        refine r_iload_n (pc := 9) C 3 dJ1_indexOfChar_4cfef_9 rfl rfl ?_
        refine r_icmp_ge (pc := 10) (tgt := 31) C dJ1_indexOfChar_4cfef_10 (by decide) (by first | omega | exact zand_rng _ _ | exact zor_rng _ _ | exact zxor_rng _ _ | exact BT.r (IT.b (by assumption)) _ _) (by first | omega | exact zand_rng _ _ | exact zor_rng _ _ | exact zxor_rng _ _ | exact BT.r (IT.b (by assumption)) _ _) (fun c10 => absurd c10 (by omega)) (fun c10 => ?_)
        refine r_aload_n (pc := 13) C 0 dJ1_indexOfChar_4cfef_13 rfl rfl ?_
        refine r_iload (pc := 14) C dJ1_indexOfChar_4cfef_14 rfl ?_
        refine r_baload (pc := 16) C dJ1_indexOfChar_4cfef_16 5 (by first | assumption | decide | omega) (by show 0 ≤ _ ∧ _ < (6 : Int); omega) (by show sCh 5 _ = 115; rfl) ?_
        refine r_iload (pc := 17) C dJ1_indexOfChar_4cfef_17 rfl ?_
        refine r_icmp_ne (pc := 19) (tgt := 25) C dJ1_indexOfChar_4cfef_19 (by decide) (by first | omega | exact zand_rng _ _ | exact zor_rng _ _ | exact zxor_rng _ _ | exact BT.r (IT.b (by assumption)) _ _) (by first | omega | exact zand_rng _ _ | exact zor_rng _ _ | exact zxor_rng _ _ | exact BT.r (IT.b (by assumption)) _ _) (fun c19 => ?_) (fun c19 => ?_)
        · refine r_iinc (pc := 25) C dJ1_indexOfChar_4cfef_25 rfl ?_
          refine r_goto (pc := 28) (tgt := 7) C dJ1_indexOfChar_4cfef_28 (by decide) ?_
          refine r_iload (pc := 7) C dJ1_indexOfChar_4cfef_7 rfl ?_
          refine r_iload_n (pc := 9) C 3 dJ1_indexOfChar_4cfef_9 rfl rfl ?_
          refine r_icmp_ge (pc := 10) (tgt := 31) C dJ1_indexOfChar_4cfef_10 (by decide) (by first | omega | exact zand_rng _ _ | exact zor_rng _ _ | exact zxor_rng _ _ | exact BT.r (IT.b (by assumption)) _ _) (by first | omega | exact zand_rng _ _ | exact zor_rng _ _ | exact zxor_rng _ _ | exact BT.r (IT.b (by assumption)) _ _) (fun c10 => absurd c10 (by omega)) (fun c10 => ?_)
          refine r_aload_n (pc := 13) C 0 dJ1_indexOfChar_4cfef_13 rfl rfl ?_
          refine r_iload (pc := 14) C dJ1_indexOfChar_4cfef_14 rfl ?_
          refine r_baload (pc := 16) C dJ1_indexOfChar_4cfef_16 5 (by first | assumption | decide | omega) (by show 0 ≤ _ ∧ _ < (6 : Int); omega) (by show sCh 5 _ = 98; rfl) ?_
          refine r_iload (pc := 17) C dJ1_indexOfChar_4cfef_17 rfl ?_
          refine r_icmp_ne (pc := 19) (tgt := 25) C dJ1_indexOfChar_4cfef_19 (by decide) (by first | omega | exact zand_rng _ _ | exact zor_rng _ _ | exact zxor_rng _ _ | exact BT.r (IT.b (by assumption)) _ _) (by first | omega | exact zand_rng _ _ | exact zor_rng _ _ | exact zxor_rng _ _ | exact BT.r (IT.b (by assumption)) _ _) (fun c19 => ?_) (fun c19 => ?_)
          · refine r_iinc (pc := 25) C dJ1_indexOfChar_4cfef_25 rfl ?_
            refine r_goto (pc := 28) (tgt := 7) C dJ1_indexOfChar_4cfef_28 (by decide) ?_
            refine r_iload (pc := 7) C dJ1_indexOfChar_4cfef_7 rfl ?_
            refine r_iload_n (pc := 9) C 3 dJ1_indexOfChar_4cfef_9 rfl rfl ?_
            refine r_icmp_ge (pc := 10) (tgt := 31) C dJ1_indexOfChar_4cfef_10 (by decide) (by first | omega | exact zand_rng _ _ | exact zor_rng _ _ | exact zxor_rng _ _ | exact BT.r (IT.b (by assumption)) _ _) (by first | omega | exact zand_rng _ _ | exact zor_rng _ _ | exact zxor_rng _ _ | exact BT.r (IT.b (by assumption)) _ _) (fun c10 => absurd c10 (by omega)) (fun c10 => ?_)
            refine r_aload_n (pc := 13) C 0 dJ1_indexOfChar_4cfef_13 rfl rfl ?_
            refine r_iload (pc := 14) C dJ1_indexOfChar_4cfef_14 rfl ?_
            refine r_baload (pc := 16) C dJ1_indexOfChar_4cfef_16 5 (by first | assumption | decide | omega) (by show 0 ≤ _ ∧ _ < (6 : Int); omega) (by show sCh 5 _ = 116; rfl) ?_
            refine r_iload (pc := 17) C dJ1_indexOfChar_4cfef_17 rfl ?_
            refine r_icmp_ne (pc := 19) (tgt := 25) C dJ1_indexOfChar_4cfef_19 (by decide) (by first | omega | exact zand_rng _ _ | exact zor_rng _ _ | exact zxor_rng _ _ | exact BT.r (IT.b (by assumption)) _ _) (by first | omega | exact zand_rng _ _ | exact zor_rng _ _ | exact zxor_rng _ _ | exact BT.r (IT.b (by assumption)) _ _) (fun c19 => ?_) (fun c19 => ?_)
            · refine r_iinc (pc := 25) C dJ1_indexOfChar_4cfef_25 rfl ?_
              refine r_goto (pc := 28) (tgt := 7) C dJ1_indexOfChar_4cfef_28 (by decide) ?_
              refine r_iload (pc := 7) C dJ1_indexOfChar_4cfef_7 rfl ?_
              refine r_iload_n (pc := 9) C 3 dJ1_indexOfChar_4cfef_9 rfl rfl ?_
              refine r_icmp_ge (pc := 10) (tgt := 31) C dJ1_indexOfChar_4cfef_10 (by decide) (by first | omega | exact zand_rng _ _ | exact zor_rng _ _ | exact zxor_rng _ _ | exact BT.r (IT.b (by assumption)) _ _) (by first | omega | exact zand_rng _ _ | exact zor_rng _ _ | exact zxor_rng _ _ | exact BT.r (IT.b (by assumption)) _ _) (fun c10 => ?_) (fun c10 => absurd c10 (by omega))
              refine r_iconst (pc := 31) C dJ1_indexOfChar_4cfef_31 ?_
              exact r_iret (pc := 32) C hQ dJ1_indexOfChar_4cfef_32 rfl (jst_ri (by unfold sKx; (repeat (first | rw [if_pos (by omega)] | rw [if_neg (by omega)])); (try rfl)) rfl)
            · refine r_iload (pc := 22) C dJ1_indexOfChar_4cfef_22 rfl ?_
              exact r_iret (pc := 24) C hQ dJ1_indexOfChar_4cfef_24 rfl (jst_ri (by unfold sKx; (repeat (first | rw [if_pos (by omega)] | rw [if_neg (by omega)])); (try rfl)) rfl)
          · refine r_iload (pc := 22) C dJ1_indexOfChar_4cfef_22 rfl ?_
            exact r_iret (pc := 24) C hQ dJ1_indexOfChar_4cfef_24 rfl (jst_ri (by unfold sKx; (repeat (first | rw [if_pos (by omega)] | rw [if_neg (by omega)])); (try rfl)) rfl)
        · refine r_iload (pc := 22) C dJ1_indexOfChar_4cfef_22 rfl ?_
          exact r_iret (pc := 24) C hQ dJ1_indexOfChar_4cfef_24 rfl (jst_ri (by unfold sKx; (repeat (first | rw [if_pos (by omega)] | rw [if_neg (by omega)])); (try rfl)) rfl)
      · refine r_iload (pc := 22) C dJ1_indexOfChar_4cfef_22 rfl ?_
        exact r_iret (pc := 24) C hQ dJ1_indexOfChar_4cfef_24 rfl (jst_ri (by unfold sKx; (repeat (first | rw [if_pos (by omega)] | rw [if_neg (by omega)])); (try rfl)) rfl)
    · refine r_iload (pc := 22) C dJ1_indexOfChar_4cfef_22 rfl ?_
      exact r_iret (pc := 24) C hQ dJ1_indexOfChar_4cfef_24 rfl (jst_ri (by unfold sKx; (repeat (first | rw [if_pos (by omega)] | rw [if_neg (by omega)])); (try rfl)) rfl)
  · refine r_iload (pc := 22) C dJ1_indexOfChar_4cfef_22 rfl ?_
    exact r_iret (pc := 24) C hQ dJ1_indexOfChar_4cfef_24 rfl (jst_ri (by unfold sKx; (repeat (first | rw [if_pos (by omega)] | rw [if_neg (by omega)])); (try rfl)) rfl)

set_option maxRecDepth 100000 in
set_option maxHeartbeats 4000000 in
theorem c_J1_indexOf_4cfef (l : Launch) (G : GT) (c : Int) (hc : 0 ≤ c ∧ c ≤ 255) : Cn l yJ1_indexOf_4cfef cJ1_indexOf_4cfef 4 (Option.some .int) ({ frames := 1, cells := 0, slots := 0, locals := 25 }) G [.ref (G.2.2.2.2 5), .int (iI c), .int (iI 0), .int (iI 6)] (w0) (jst (some (.int (iI (sKx c)))) (w0)) := by
  refine Cn_in RJ1 [some (.ref (G.2.2.2.2 5)), some (.int (iI c)), some (.int (iI 0)), some (.int (iI 6))] (by decide +kernel) rfl rfl rfl (Nat.le_of_ble_eq_true rfl) (fun K C hQ => ?_)
  refine r_iload_n (pc := 0) C 1 dJ1_indexOf_4cfef_0 rfl rfl ?_
  refine r_callS (pc := 1) (is := []) C YJ1_canEncode_9a6ad dJ1_indexOf_4cfef_1 tw_296 (c_J1_canEncode_9a6ad l G _ (by first | assumption | omega | exact zand_rng _ _ | exact zor_rng _ _ | exact zxor_rng _ _ | exact BT.r (IT.b (by assumption)) _ _)) rfl (by decide) rfl rfl (Nat.le_of_ble_eq_true rfl) ⟨rfl, rfl, by decide, by decide⟩ (jst_i (ups_nil _) ?_)
  refine r_if_ne (pc := 4) (tgt := 9) C dJ1_indexOf_4cfef_4 (by decide) (by first | omega | exact zand_rng _ _ | exact zor_rng _ _ | exact zxor_rng _ _ | exact BT.r (IT.b (by assumption)) _ _) (fun c4 => ?_) (fun c4 => absurd c4 (by omega))
  refine r_iload_n (pc := 9) C 2 dJ1_indexOf_4cfef_9 rfl rfl ?_
  refine r_iconst (pc := 10) C dJ1_indexOf_4cfef_10 ?_
  refine r_max (pc := 11) C dJ1_indexOf_4cfef_11 tw_299 tw_300 tw_15 tw_301 (Nat.le_of_ble_eq_true rfl) (by decide) (by first | omega | exact zand_rng _ _ | exact zor_rng _ _ | exact zxor_rng _ _ | exact BT.r (IT.b (by assumption)) _ _) (by first | omega | exact zand_rng _ _ | exact zor_rng _ _ | exact zxor_rng _ _ | exact BT.r (IT.b (by assumption)) _ _) ?_
  refine r_istore_n (pc := 14) C 2 dJ1_indexOf_4cfef_14 rfl (Nat.le_of_ble_eq_true rfl) ?_
  show Wc K G _ [some (.ref (G.2.2.2.2 5)), some (.int (iI c)), some (.int (iI 0)), some (.int (iI 6))] _ _
  refine r_iload_n (pc := 15) C 3 dJ1_indexOf_4cfef_15 rfl rfl ?_
  refine r_aload_n (pc := 16) C 0 dJ1_indexOf_4cfef_16 rfl rfl ?_
  refine r_blen (pc := 17) C dJ1_indexOf_4cfef_17 5 (by first | assumption | decide | omega) (n := 6) rfl ?_
  refine r_min (pc := 18) C dJ1_indexOf_4cfef_18 tw_302 tw_303 tw_15 tw_304 (Nat.le_of_ble_eq_true rfl) (by decide) (by first | omega | exact zand_rng _ _ | exact zor_rng _ _ | exact zxor_rng _ _ | exact BT.r (IT.b (by assumption)) _ _) (by first | omega | exact zand_rng _ _ | exact zor_rng _ _ | exact zxor_rng _ _ | exact BT.r (IT.b (by assumption)) _ _) ?_
  refine r_istore_n (pc := 21) C 3 dJ1_indexOf_4cfef_21 rfl (Nat.le_of_ble_eq_true rfl) ?_
  show Wc K G _ [some (.ref (G.2.2.2.2 5)), some (.int (iI c)), some (.int (iI 0)), some (.int (iI 6))] _ _
  refine r_iload_n (pc := 22) C 2 dJ1_indexOf_4cfef_22 rfl rfl ?_
  refine r_iload_n (pc := 23) C 3 dJ1_indexOf_4cfef_23 rfl rfl ?_
  refine r_icmp_lt (pc := 24) (tgt := 29) C dJ1_indexOf_4cfef_24 (by decide) (by first | omega | exact zand_rng _ _ | exact zor_rng _ _ | exact zxor_rng _ _ | exact BT.r (IT.b (by assumption)) _ _) (by first | omega | exact zand_rng _ _ | exact zor_rng _ _ | exact zxor_rng _ _ | exact BT.r (IT.b (by assumption)) _ _) (fun c24 => ?_) (fun c24 => absurd c24 (by omega))
  refine r_aload_n (pc := 29) C 0 dJ1_indexOf_4cfef_29 rfl rfl ?_
  refine r_iload_n (pc := 30) C 1 dJ1_indexOf_4cfef_30 rfl rfl ?_
  refine r_iload_n (pc := 31) C 2 dJ1_indexOf_4cfef_31 rfl rfl ?_
  refine r_iload_n (pc := 32) C 3 dJ1_indexOf_4cfef_32 rfl rfl ?_
  refine r_callS (pc := 33) (is := []) C YJ1_indexOfChar_4cfef dJ1_indexOf_4cfef_33 tw_305 (c_J1_indexOfChar_4cfef l G _ (by first | assumption | omega | exact zand_rng _ _ | exact zor_rng _ _ | exact zxor_rng _ _ | exact BT.r (IT.b (by assumption)) _ _)) rfl (by decide) rfl rfl (Nat.le_of_ble_eq_true rfl) ⟨rfl, rfl, by decide, by decide⟩ (jst_i (ups_nil _) ?_)
  exact r_iret (pc := 36) C hQ dJ1_indexOf_4cfef_36 rfl (jst_ri (by rfl) rfl)

set_option maxRecDepth 100000 in
set_option maxHeartbeats 4000000 in
theorem c_J0_indexOf_7cf53 (l : Launch) (G : GT) (c : Int) (hc : 0 ≤ c ∧ c ≤ 255) : Cn l yJ0_indexOf_7cf53 cJ0_indexOf_7cf53 3 (Option.some .int) ({ frames := 5, cells := 0, slots := 0, locals := 116 }) G [.ref (G.2.2.2.1 5), .int (iI c), .int (iI 0)] (w0) (jst (some (.int (iI (sKx c)))) (w0)) := by
  refine Cn_in RJ0 [some (.ref (G.2.2.2.1 5)), some (.int (iI c)), some (.int (iI 0))] (by decide +kernel) rfl rfl rfl (Nat.le_of_ble_eq_true rfl) (fun K C hQ => ?_)
  refine r_aload_n (pc := 0) C 0 dJ0_indexOf_7cf53_0 rfl rfl ?_
  refine r_callVS (pc := 1) (is := []) C YJ0_isLatin1_aae02 dJ0_indexOf_7cf53_1 tw_240 (c_J0_isLatin1_aae02 l G _ (by first | assumption | omega | exact zand_rng _ _ | exact zor_rng _ _ | exact zxor_rng _ _ | exact BT.r (IT.b (by assumption)) _ _)) 5 (by first | assumption | decide | omega) rfl rfl (by decide) rfl rfl (Nat.le_of_ble_eq_true rfl) ⟨rfl, rfl, by decide, by decide⟩ (jst_i (ups_nil _) ?_)
  refine r_if_eq (pc := 4) (tgt := 23) C dJ0_indexOf_7cf53_4 (by decide) (by first | omega | exact zand_rng _ _ | exact zor_rng _ _ | exact zxor_rng _ _ | exact BT.r (IT.b (by assumption)) _ _) (fun c4 => absurd c4 (by omega)) (fun c4 => ?_)
  refine r_aload_n (pc := 7) C 0 dJ0_indexOf_7cf53_7 rfl rfl ?_
  refine r_sval (pc := 8) C dJ0_indexOf_7cf53_8 5 (by first | assumption | decide | omega) tw_1044 ?_
  refine r_iload_n (pc := 11) C 1 dJ0_indexOf_7cf53_11 rfl rfl ?_
  refine r_iload_n (pc := 12) C 2 dJ0_indexOf_7cf53_12 rfl rfl ?_
  refine r_aload_n (pc := 13) C 0 dJ0_indexOf_7cf53_13 rfl rfl ?_
  refine r_callVS (pc := 14) (is := []) C YJ0_length_8abf5 dJ0_indexOf_7cf53_14 tw_292 (c_J0_length_8abf5 l G _ (by first | assumption | omega | exact zand_rng _ _ | exact zor_rng _ _ | exact zxor_rng _ _ | exact BT.r (IT.b (by assumption)) _ _)) 5 (by first | assumption | decide | omega) rfl rfl (by decide) rfl rfl (Nat.le_of_ble_eq_true rfl) ⟨rfl, rfl, by decide, by decide⟩ (jst_i (ups_nil _) ?_)
  refine r_callS (pc := 17) (is := []) C YJ1_indexOf_4cfef dJ0_indexOf_7cf53_17 tw_293 (c_J1_indexOf_4cfef l G _ (by first | assumption | omega | exact zand_rng _ _ | exact zor_rng _ _ | exact zxor_rng _ _ | exact BT.r (IT.b (by assumption)) _ _)) rfl (by decide) rfl rfl (Nat.le_of_ble_eq_true rfl) ⟨rfl, rfl, by decide, by decide⟩ (jst_i (ups_nil _) ?_)
  refine r_goto (pc := 20) (tgt := 36) C dJ0_indexOf_7cf53_20 (by decide) ?_
  exact r_iret (pc := 36) C hQ dJ0_indexOf_7cf53_36 rfl (jst_ri (by rfl) rfl)

set_option maxRecDepth 100000 in
set_option maxHeartbeats 4000000 in
theorem c_J0_indexOf_0f7a4 (l : Launch) (G : GT) (c : Int) (hc : 0 ≤ c ∧ c ≤ 255) : Cn l yJ0_indexOf_0f7a4 cJ0_indexOf_0f7a4 2 (Option.some .int) ({ frames := 6, cells := 0, slots := 0, locals := 138 }) G [.ref (G.2.2.2.1 5), .int (iI c)] (w0) (jst (some (.int (iI (sKx c)))) (w0)) := by
  refine Cn_in RJ0 [some (.ref (G.2.2.2.1 5)), some (.int (iI c))] (by decide +kernel) rfl rfl rfl (Nat.le_of_ble_eq_true rfl) (fun K C hQ => ?_)
  refine r_aload_n (pc := 0) C 0 dJ0_indexOf_0f7a4_0 rfl rfl ?_
  refine r_iload_n (pc := 1) C 1 dJ0_indexOf_0f7a4_1 rfl rfl ?_
  refine r_iconst (pc := 2) C dJ0_indexOf_0f7a4_2 ?_
  refine r_callVS (pc := 3) (is := []) C YJ0_indexOf_7cf53 dJ0_indexOf_0f7a4_3 tw_288 (c_J0_indexOf_7cf53 l G _ (by first | assumption | omega | exact zand_rng _ _ | exact zor_rng _ _ | exact zxor_rng _ _ | exact BT.r (IT.b (by assumption)) _ _)) 5 (by first | assumption | decide | omega) rfl rfl (by decide) rfl rfl (Nat.le_of_ble_eq_true rfl) ⟨rfl, rfl, by decide, by decide⟩ (jst_i (ups_nil _) ?_)
  exact r_iret (pc := 6) C hQ dJ0_indexOf_0f7a4_6 rfl (jst_ri (by rfl) rfl)

