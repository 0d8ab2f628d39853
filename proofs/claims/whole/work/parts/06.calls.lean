/-! calls over Wc -/
section
variable {K : KT} {l : Launch} {G : GT} {cc : ByteArray} {own : String} {ret : Option FieldType} {rm : Room} {pc : Nat} {vs : List (Option Value)} {st0 rest : List Value} {gs gsc : List va_W}
theorem sub_mem {is : List Nat} (h : is.map (fun i => gs[i]?) = gsc.map some) {g : va_W} (hg : g ∈ gsc) : ∃ i, i ∈ is ∧ gs[i]? = some g := by
  have h1 : some g ∈ gsc.map some := List.mem_map.mpr ⟨g, hg, rfl⟩
  rw [← h] at h1
  obtain ⟨i, hi, e⟩ := List.mem_map.mp h1
  exact ⟨i, hi, e⟩
theorem sub_Ad {is : List Nat} {A : Nat → Prop} (h : is.map (fun i => gs[i]?) = gsc.map some) (hD : DG A gs) : ∀ q, Ad gsc q → A q := by
  intro q hq
  obtain ⟨as, h1, h2⟩ := List.mem_flatten.mp hq
  obtain ⟨g, hg, rfl⟩ := List.mem_map.mp h1
  obtain ⟨i, -, hi⟩ := sub_mem h hg
  exact hD.2 q (List.mem_flatten.mpr ⟨_, List.mem_map.mpr ⟨g, List.mem_of_getElem? hi, rfl⟩, h2⟩)
theorem sub_nd : ∀ {is : List Nat} {gc : List va_W} {A : Nat → Prop}, is.map (fun i => gs[i]?) = gc.map some → is.Nodup → DG A gs → (shp gc).flatten.Nodup
  | [], [], _, _, _, _ => List.nodup_nil
  | [], _ :: _, _, h, _, _ => by cases h
  | _ :: _, [], _, h, _, _ => by cases h
  | i :: is, g :: gc, A, h, hn, hD => by
    have h1 : gs[i]? = some g := (List.cons.inj h).1
    have h2 : is.map (fun i => gs[i]?) = gc.map some := (List.cons.inj h).2
    have hn1 := List.nodup_cons.mp hn
    show (g.map Prod.fst ++ (shp gc).flatten).Nodup
    refine List.nodup_append.mpr ⟨?_, sub_nd h2 hn1.2 hD, fun a ha b hb e => ?_⟩
    · exact (List.pairwise_flatten.mp hD.1).1 _ (List.mem_map.mpr ⟨g, List.mem_of_getElem? h1, rfl⟩)
    · subst e
      obtain ⟨as, q1, q2⟩ := List.mem_flatten.mp hb
      obtain ⟨g2, hg2, rfl⟩ := List.mem_map.mp q1
      obtain ⟨j, hj, hj2⟩ := sub_mem h2 hg2
      exact hD.apart h1 hj2 (fun e => hn1.1 (by rw [e]; exact hj)) ha q2
theorem PG.sub {D : va_G} {is : List Nat} {H : Heap} (h : is.map (fun i => gs[i]?) = gsc.map some) (hP : PG D gs H) : PG D gsc H := by
  rw [PG.mem] at hP ⊢
  intro g hg
  obtain ⟨i, -, hi⟩ := sub_mem h hg
  exact hP g (List.mem_of_getElem? hi)
/-- what the callee asks, out of what the caller has -/
theorem pre_sub (C : Cf K l G cc own ret rm) {av : List Value} {is : List Nat} (h : is.map (fun i => gs[i]?) = gsc.map some) (hn : is.Nodup) {H : Heap} {locs : List Loc} (hP : PG G.1 gs H) (hD : DG (kA K) gs) (hS : va_S (kA K) (ks K).heap H locs) : FrameBlind (Pcn G av gsc) ∧ ∀ U : State, U.heap = H → (ks K).WarmedH U.vm → Pcn G av gsc av.toArray U := by
  refine ⟨fun a U g mk q => ⟨q.1, q.2.1, q.2.2.1, va_K.moved (u := U) (U := U.calling g mk a) (Vm.Alike.refl U.vm) q.2.2.2.1, SF.calling g mk a q.2.2.2.2⟩, fun U hU hW => ⟨rfl, by rw [hU]; exact hP.sub h, sub_nd h hn hD, va_K.moved hW.alike C.k, ?_⟩⟩
  rw [hU]
  exact ((C.z.kept hS.2.1).narrow (sub_Ad h hD)).warm hW
theorem call_core {is : List Nat} {Post : Option Value → List va_W → Prop} {a : Array Value} (hsub : is.map (fun i => gs[i]?) = gsc.map some) (hn : is.Nodup)
    (hr : ∀ (H : Heap) (locs : List Loc) (ls : Array Slot), PG G.1 gs H → DG (kA K) gs → va_S (kA K) (ks K).heap H locs → LV ls (kL K) vs → va_Run (kp K) (kl K) (ke K) (kR K) (ks K) (km K) (ka K) (kb K) (kme K) (kc K) H locs (kn K) (kt K) 0 0 (F0 (km K) pc ls st0) rest (Qcn G gsc Post a) (Ad gsc))
    (kk : ∀ (v : Option Value) (gs' : List va_W), Post v gs' → shp gs' = shp gsc → Wc K G (pc + 3) vs (v.toList ++ rest) (ups gs is gs')) : Wc K G pc vs st0 gs := by
  intro H locs ls hP hD hS hl T hT X
  obtain ⟨v, st₀, t, T', L, h0, X', hL, e1, e2, ⟨v', gs', ho, hpost, hsh, hPG, hF⟩, st⟩ := hr H locs ls hP hD hS hl T hT X
  cases ho
  obtain ⟨hF1, hF2⟩ := hF
  rw [h0] at hF1 hF2
  rw [← e1] at hF1 hF2 hPG
  have hA := sub_Ad hsub hD
  have hlen : is.length = gs'.length := by
    have q1 := congrArg List.length hsub
    have q2 := congrArg List.length hsh
    simp only [List.length_map, shp] at q1 q2
    omega
  have hsh2 : shp (ups gs is gs') = shp gs := ups_shp hsub hn hsh
  have hPn : PG G.1 (ups gs is gs') T'.heap := by
    rw [PG.mem] at hPG hP ⊢
    intro g hg q hq
    rcases ups_mem hlen hg with h | ⟨j, hj, hji⟩
    · exact hPG g h q hq
    · have hat := hP g (List.mem_of_getElem? hj) q hq
      refine hat.kept (hF2 q.1 hat.lt (fun hAd => ?_))
      obtain ⟨as, q1, q2⟩ := List.mem_flatten.mp hAd
      obtain ⟨g2, hg2, rfl⟩ := List.mem_map.mp q1
      obtain ⟨i, hi, hi2⟩ := sub_mem hsub hg2
      exact hD.apart hj hi2 (fun e => hji (by rw [e]; exact hi)) (List.mem_map.mpr ⟨q, hq, rfl⟩) q2
  obtain ⟨t2, a1, b1⟩ := kk v gs' hpost hsh T'.heap (locs ++ L) ls hPn (hD.same hsh2)
    ⟨Nat.le_trans hS.1 hF1, fun q h1 h2 => by rw [hF2 q (Nat.lt_of_lt_of_le h1 hS.1) (fun z => h2 (hA q z))]; exact hS.2.1 q h1 h2, fun q hq => by
      rcases List.mem_append.mp hq with h | h
      · exact hS.2.2 q h
      · exact hA _ (hL q h)⟩ hl T' rfl X'
  exact ⟨t2, st t2 a1, b1⟩
end
/-! what a method's own words are -/
def YB (y : MethodName) (bytes : ByteArray) (maxL : Nat) (ret : Option FieldType) (n : Nat) : Prop := Cond.code y bytes maxL ret ∈ lw_g ∧ Cond.initialized y.cls ∈ lw_g ∧ (y.cls ≠ "java/lang/invoke/MethodHandle" ∧ y.cls ≠ "java/lang/invoke/VarHandle") ∧ (parseMethodDescriptor y.desc).map (fun d => d.parameters.length) = some n
def YV (y : MethodName) (bytes : ByteArray) (maxL : Nat) (ret : Option FieldType) (n : Nat) : Prop := YB y bytes maxL ret n ∧ Cond.instanceMethod y ∈ lw_g ∧ Cond.selects y.cls y y ∈ lw_g
def YS (y : MethodName) (bytes : ByteArray) (maxL : Nat) (ret : Option FieldType) (n : Nat) : Prop := YB y bytes maxL ret n ∧ Cond.static y ∈ lw_g
theorem YB.len {y : MethodName} {bytes : ByteArray} {maxL : Nat} {ret : Option FieldType} {n : Nat} (h : YB y bytes maxL ret n) : ∀ sig, parseMethodDescriptor y.desc = some sig → n = sig.parameters.length := by
  intro sig hs
  have h2 := h.2.2.2
  rw [hs] at h2
  exact (Option.some.inj h2).symm
theorem YB.good {y : MethodName} {bytes : ByteArray} {maxL : Nat} {ret : Option FieldType} {n : Nat} (h : YB y bytes maxL ret n) : GoodIn lw_g (wU y bytes maxL ret) := by
  intro w hw
  have hm : w ∈ lw_g := by
    rcases List.mem_cons.mp hw with rfl | h2
    · exact h.1
    · exact h2
  exact ⟨hm, good_of_word (List.mem_filter.mp hm).2⟩
section
variable {K : KT} {l : Launch} {G : GT} {cc : ByteArray} {own : String} {ret : Option FieldType} {rm : Room} {pc : Nat} {vs : List (Option Value)} {st0 rest : List Value} {gs gsc : List va_W}
theorem fixC (C : Cf K l G cc own ret rm) : CallFix (kp K) (km K) (kc K) cc (kL K) (ks K) (ka K) lw_g own := ⟨C.x, C.b, C.ml, C.o, C.t⟩
/-- invokevirtual of a method of the receiver's own class -/
theorem r_callV (C : Cf K l G cc own ret rm) {y : MethodName} {bytes : ByteArray} {maxL n idx b ci N : Nat} {rt : Option FieldType} {rmc : Room} {As : List Value} {is : List Nat} {Post : Option Value → List va_W → Prop} {C0 : String} {T : u_T} {rg : va_W} {fs : List Value} (Y : YV y bytes maxL rt n) (hd : decode cc pc = .ok (.invokevirtual idx, 3)) (hw : Cond.methodLink own idx y ∈ lw_g) (hM : Cn l y bytes maxL rt rmc G (.ref b :: As) gsc Post) (ri rq : Nat) (hrg : gs[ri]? = some rg) (hre : rg[rq]? = some (b, .inr (ci, fs))) (hrc : vwCl[ci]? = some (C0, T, N)) (hC0 : y.cls = C0) (hsub : is.map (fun i => gs[i]?) = gsc.map some) (hnd : is.Nodup) (hn : As.length = n) (hst : st0 = As.reverse ++ .ref b :: rest) (hro : (rest.map fun v => v.category).sum ≤ 8) (hrm : rmc.cells = 0 ∧ rmc.slots = 0 ∧ rmc.frames + 1 ≤ rm.frames ∧ 8 + (maxL + 11) + rmc.locals ≤ rm.locals)
    (kk : ∀ (v : Option Value) (gs' : List va_W), Post v gs' → shp gs' = shp gsc → Wc K G (pc + 3) vs (v.toList ++ rest) (ups gs is gs')) : Wc K G pc vs st0 gs := by
  obtain ⟨YB0, Y2, Y3⟩ := Y
  subst hst
  refine call_core (a := (Value.ref b :: As).toArray) hsub hnd (fun H locs ls hP hD hS hl => ?_) kk
  have hpre := pre_sub (av := .ref b :: As) C hsub hnd hP hD hS
  have hM' : Met (kl K) y (wU y bytes maxL rt) rmc (Pcn G (.ref b :: As) gsc) (Qcn G gsc Post) 0 0 (Ad gsc) := by rw [C.la]; exact hM
  refine va_runV (C := C0) (fixC C) hM' ⟨⟨hrm.1, hrm.2.1, ?_, ?_, pay_in C.t YB0.good, List.mem_cons_self, C.t _ YB0.1, C.t _ YB0.2.1, YB0.2.2.1, YB0.len, C.t _ hw⟩, C.t _ Y2, by rw [← hC0]; exact C.t _ Y3⟩ ⟨hpre.1, va_recv C.k hP hrc (off_get hrg hre), hpre.2⟩ rfl hn hl.1 rfl (lv_room hro) hd ?_
  · rw [C.R]; exact hrm.2.2.1
  · rw [C.R]; exact hrm.2.2.2
  · rw [C.R]; exact C.n
/-- invokevirtual of a method that the receiver's class inherits or overrides -/
theorem r_callU (C : Cf K l G cc own ret rm) {x y : MethodName} {bytes : ByteArray} {maxL n idx b ci N : Nat} {rt : Option FieldType} {rmc : Room} {As : List Value} {is : List Nat} {Post : Option Value → List va_W → Prop} {C0 : String} {T : u_T} {rg : va_W} {fs : List Value} {b0 : ByteArray} {m0 : Nat} {r0 : Option FieldType} (Y : YB y bytes maxL rt n) (hd : decode cc pc = .ok (.invokevirtual idx, 3)) (hw : Cond.methodLink own idx x ∈ lw_g) (hsm : Cond.sameMethod x.cls x.cls x.name x.desc ∈ lw_g) (hxi : Cond.instanceMethod x ∈ lw_g) (hxc : Cond.code x b0 m0 r0 ∈ lw_g) (hxd : (parseMethodDescriptor x.desc).map (fun d => d.parameters.length) = some n) (hxm : x.cls ≠ "java/lang/invoke/MethodHandle" ∧ x.cls ≠ "java/lang/invoke/VarHandle") (hyi : Cond.instanceMethod y ∈ lw_g) (hse : Cond.selects C0 x y ∈ lw_g) (hM : Cn l y bytes maxL rt rmc G (.ref b :: As) gsc Post) (ri rq : Nat) (hrg : gs[ri]? = some rg) (hre : rg[rq]? = some (b, .inr (ci, fs))) (hrc : vwCl[ci]? = some (C0, T, N)) (hsub : is.map (fun i => gs[i]?) = gsc.map some) (hnd : is.Nodup) (hn : As.length = n) (hst : st0 = As.reverse ++ .ref b :: rest) (hro : (rest.map fun v => v.category).sum ≤ 8) (hrm : rmc.cells = 0 ∧ rmc.slots = 0 ∧ rmc.frames + 1 ≤ rm.frames ∧ 8 + (maxL + 11) + rmc.locals ≤ rm.locals)
    (kk : ∀ (v : Option Value) (gs' : List va_W), Post v gs' → shp gs' = shp gsc → Wc K G (pc + 3) vs (v.toList ++ rest) (ups gs is gs')) : Wc K G pc vs st0 gs := by
  subst hst
  refine call_core (a := (Value.ref b :: As).toArray) hsub hnd (fun H locs ls hP hD hS hl => ?_) kk
  have hpre := pre_sub (av := .ref b :: As) C hsub hnd hP hD hS
  have hM' : Met (kl K) y (wU y bytes maxL rt) rmc (Pcn G (.ref b :: As) gsc) (Qcn G gsc Post) 0 0 (Ad gsc) := by rw [C.la]; exact hM
  refine va_runU (C := C0) (owner := x.cls) (x := x) (fixC C) hM' ⟨⟨hrm.1, hrm.2.1, ?_, ?_, pay_in C.t Y.good, List.mem_cons_self⟩, C.t _ Y.1, C.t _ Y.2.1, hxm, ?_, C.t _ hw, C.t _ hsm, va_Decl.of (C.t _ hxi) (C.t _ hxc), C.t _ hse, C.t _ hyi⟩ ⟨hpre.1, va_recv C.k hP hrc (off_get hrg hre), hpre.2⟩ rfl hn hl.1 rfl (lv_room hro) hd ?_
  · rw [C.R]; exact hrm.2.2.1
  · rw [C.R]; exact hrm.2.2.2
  · intro sig hs
    have h2 := hxd
    rw [hs] at h2
    exact (Option.some.inj h2).symm
  · rw [C.R]; exact C.n
/-- invokespecial of super's method -/
theorem r_callP (C : Cf K l G cc own ret rm) {y : MethodName} {bytes : ByteArray} {maxL n idx b ci N : Nat} {rt : Option FieldType} {rmc : Room} {As : List Value} {is : List Nat} {Post : Option Value → List va_W → Prop} {C0 : String} {T : u_T} {rg : va_W} {fs : List Value} (Y : YB y bytes maxL rt n) (hd : decode cc pc = .ok (.invokespecial idx, 3)) (hw : Cond.methodLink own idx y ∈ lw_g) (hsm : Cond.sameMethod y.cls y.cls y.name y.desc ∈ lw_g) (hsu : Cond.superclass own y.cls ∈ lw_g) (hyi : Cond.instanceMethod y ∈ lw_g) (hno : y.name ≠ "<init>") (hM : Cn l y bytes maxL rt rmc G (.ref b :: As) gsc Post) (ri rq : Nat) (hrg : gs[ri]? = some rg) (hre : rg[rq]? = some (b, .inr (ci, fs))) (hrc : vwCl[ci]? = some (C0, T, N)) (hsub : is.map (fun i => gs[i]?) = gsc.map some) (hnd : is.Nodup) (hn : As.length = n) (hst : st0 = As.reverse ++ .ref b :: rest) (hro : (rest.map fun v => v.category).sum ≤ 8) (hrm : rmc.cells = 0 ∧ rmc.slots = 0 ∧ rmc.frames + 1 ≤ rm.frames ∧ 8 + (maxL + 11) + rmc.locals ≤ rm.locals)
    (kk : ∀ (v : Option Value) (gs' : List va_W), Post v gs' → shp gs' = shp gsc → Wc K G (pc + 3) vs (v.toList ++ rest) (ups gs is gs')) : Wc K G pc vs st0 gs := by
  subst hst
  refine call_core (a := (Value.ref b :: As).toArray) hsub hnd (fun H locs ls hP hD hS hl => ?_) kk
  have hpre := pre_sub (av := .ref b :: As) C hsub hnd hP hD hS
  have hM' : Met (kl K) y (wU y bytes maxL rt) rmc (Pcn G (.ref b :: As) gsc) (Qcn G gsc Post) 0 0 (Ad gsc) := by rw [C.la]; exact hM
  refine va_runSU (C := C0) (C.k.1 ci _ hrc).2 (fixC C) hM' ⟨⟨hrm.1, hrm.2.1, ?_, ?_, pay_in C.t Y.good, List.mem_cons_self⟩, C.t _ hw, C.t _ hsm, C.t _ hsu, C.t _ hyi, C.t _ Y.2.1, C.t _ Y.1, hno, Y.len⟩ ⟨hpre.1, va_recv C.k hP hrc (off_get hrg hre), hpre.2⟩ rfl hn hl.1 rfl (lv_room hro) hd ?_
  · rw [C.R]; exact hrm.2.2.1
  · rw [C.R]; exact hrm.2.2.2
  · rw [C.R]; exact C.n
/-- invokestatic -/
theorem r_callS (C : Cf K l G cc own ret rm) {y : MethodName} {bytes : ByteArray} {maxL n idx : Nat} {rt : Option FieldType} {rmc : Room} {As : List Value} {is : List Nat} {Post : Option Value → List va_W → Prop} (Y : YS y bytes maxL rt n) (hd : decode cc pc = .ok (.invokestatic idx, 3)) (hw : Cond.methodLink own idx y ∈ lw_g) (hM : Cn l y bytes maxL rt rmc G As gsc Post) (hsub : is.map (fun i => gs[i]?) = gsc.map some) (hnd : is.Nodup) (hn : As.length = n) (hst : st0 = As.reverse ++ rest) (hro : (rest.map fun v => v.category).sum ≤ 8) (hrm : rmc.cells = 0 ∧ rmc.slots = 0 ∧ rmc.frames + 1 ≤ rm.frames ∧ 8 + (maxL + 11) + rmc.locals ≤ rm.locals)
    (kk : ∀ (v : Option Value) (gs' : List va_W), Post v gs' → shp gs' = shp gsc → Wc K G (pc + 3) vs (v.toList ++ rest) (ups gs is gs')) : Wc K G pc vs st0 gs := by
  obtain ⟨YB0, Y2⟩ := Y
  subst hst
  refine call_core (a := As.toArray) hsub hnd (fun H locs ls hP hD hS hl => ?_) kk
  have hpre := pre_sub (av := As) C hsub hnd hP hD hS
  have hM' : Met (kl K) y (wU y bytes maxL rt) rmc (Pcn G As gsc) (Qcn G gsc Post) 0 0 (Ad gsc) := by rw [C.la]; exact hM
  refine va_runS (fixC C) hM' ⟨⟨hrm.1, hrm.2.1, ?_, ?_, pay_in C.t YB0.good, List.mem_cons_self, C.t _ YB0.1, C.t _ YB0.2.1, YB0.2.2.1, YB0.len, C.t _ hw⟩, C.t _ Y2⟩ hpre rfl hn hl.1 rfl (lv_room hro) hd ?_
  · rw [C.R]; exact hrm.2.2.1
  · rw [C.R]; exact hrm.2.2.2
  · rw [C.R]; exact C.n
/-- invokestatic of a nest mate's private method -/
theorem r_callN (C : Cf K l G cc own ret rm) {y : MethodName} {bytes : ByteArray} {maxL n idx : Nat} {host : String} {rt : Option FieldType} {rmc : Room} {As : List Value} {is : List Nat} {Post : Option Value → List va_W → Prop} (Y : YS y bytes maxL rt n) (hd : decode cc pc = .ok (.invokestatic idx, 3)) (hw : Cond.methodLinkNest own idx y host ∈ lw_n) (hM : Cn l y bytes maxL rt rmc G As gsc Post) (hsub : is.map (fun i => gs[i]?) = gsc.map some) (hnd : is.Nodup) (hn : As.length = n) (hst : st0 = As.reverse ++ rest) (hro : (rest.map fun v => v.category).sum ≤ 8) (hrm : rmc.cells = 0 ∧ rmc.slots = 0 ∧ rmc.frames + 1 ≤ rm.frames ∧ 8 + (maxL + 11) + rmc.locals ≤ rm.locals)
    (kk : ∀ (v : Option Value) (gs' : List va_W), Post v gs' → shp gs' = shp gsc → Wc K G (pc + 3) vs (v.toList ++ rest) (ups gs is gs')) : Wc K G pc vs st0 gs := by
  obtain ⟨YB0, Y2⟩ := Y
  subst hst
  refine call_core (a := As.toArray) hsub hnd (fun H locs ls hP hD hS hl => ?_) kk
  have hpre := pre_sub (av := As) C hsub hnd hP hD hS
  have hM' : Met (kl K) y (wU y bytes maxL rt) rmc (Pcn G As gsc) (Qcn G gsc Post) 0 0 (Ad gsc) := by rw [C.la]; exact hM
  refine va_runSN (host := host) (fixC C) hM' ⟨⟨⟨hrm.1, hrm.2.1, ?_, ?_, pay_in C.t YB0.good, List.mem_cons_self⟩, C.t _ YB0.1, C.t _ YB0.2.1, YB0.2.2.1, YB0.len, va_Nw.use rfl (C.z.2.2.2.2.1 _ hw)⟩, C.t _ Y2, trivial⟩ hpre rfl hn hl.1 rfl (lv_room hro) hd ?_
  · rw [C.R]; exact hrm.2.2.1
  · rw [C.R]; exact hrm.2.2.2
  · rw [C.R]; exact C.n
/-- behind a call that answers just so -/
theorem jst_i {is : List Nat} {z : Int} {gs1 gs2 : List va_W} (hu : ups gs is gs1 = gs2) (k : Wc K G (pc + 3) vs (.int (iI z) :: rest) gs2) : ∀ (v : Option Value) (gs' : List va_W), jst (some (.int (iI z))) gs1 v gs' → shp gs' = shp gsc → Wc K G (pc + 3) vs (v.toList ++ rest) (ups gs is gs') := by
  rintro v gs' ⟨rfl, rfl⟩ _
  rw [hu]
  exact k
theorem jst_a {is : List Nat} {z : Nat} {gs1 gs2 : List va_W} (hu : ups gs is gs1 = gs2) (k : Wc K G (pc + 3) vs (.ref z :: rest) gs2) : ∀ (v : Option Value) (gs' : List va_W), jst (some (.ref z)) gs1 v gs' → shp gs' = shp gsc → Wc K G (pc + 3) vs (v.toList ++ rest) (ups gs is gs') := by
  rintro v gs' ⟨rfl, rfl⟩ _
  rw [hu]
  exact k
theorem jst_v {is : List Nat} {gs1 gs2 : List va_W} (hu : ups gs is gs1 = gs2) (k : Wc K G (pc + 3) vs rest gs2) : ∀ (v : Option Value) (gs' : List va_W), jst none gs1 v gs' → shp gs' = shp gsc → Wc K G (pc + 3) vs (v.toList ++ rest) (ups gs is gs') := by
  rintro v gs' ⟨rfl, rfl⟩ _
  rw [hu]
  exact k
/-- Math.max, Math.min -/
theorem r_max (C : Cf K l G cc own ret rm) {idx : Nat} {a b : Int} (hd : decode cc pc = .ok (.invokestatic idx, 3)) (hw : Cond.methodLink own idx Lib.Math.max.name ∈ lw_g) (hs : Cond.static Lib.Math.max.name ∈ lw_g) (hi : Cond.initialized "java/lang/Math" ∈ lw_g) (hc : Cond.code Lib.Math.max.name Lib.Math.max.code 2 (some .int) ∈ lw_g) (hro : (rest.map fun v => v.category).sum ≤ 8) (hrm : 1 ≤ rm.frames ∧ 21 ≤ rm.locals) (ha : -2147483648 ≤ a ∧ a < 2147483648) (hb : -2147483648 ≤ b ∧ b < 2147483648) (k : Wc K G (pc + 3) vs (.int (iI (if a < b then b else a)) :: rest) gs) : Wc K G pc vs (.int (iI b) :: .int (iI a) :: rest) gs := by
  intro H locs ls hP hD hS hl
  have hR := C.R
  have hn := C.n
  refine va_mmax C.x C.b (C.ml.trans hl.1.symm) C.o (C.t _ hw) (C.t _ hs) (C.t _ hi) (C.t _ hc) (by rw [hR]; exact hrm.1) (by rw [hR]; omega) (by rw [hR]; exact hn.1) (by rw [hR]; exact hn.2) hd ?_
  have e : (if iI a < iI b then iI b else iI a) = iI (if a < b then b else a) := by
    by_cases h : a < b
    · rw [if_pos h, if_pos ((iI_lt ha hb).mpr h)]
    · rw [if_neg h, if_neg (fun q => h ((iI_lt ha hb).mp q))]
  rw [e]
  exact k H locs ls hP hD hS hl
theorem r_min (C : Cf K l G cc own ret rm) {idx : Nat} {a b : Int} (hd : decode cc pc = .ok (.invokestatic idx, 3)) (hw : Cond.methodLink own idx Lib.Math.min.name ∈ lw_g) (hs : Cond.static Lib.Math.min.name ∈ lw_g) (hi : Cond.initialized "java/lang/Math" ∈ lw_g) (hc : Cond.code Lib.Math.min.name Lib.Math.min.code 2 (some .int) ∈ lw_g) (hro : (rest.map fun v => v.category).sum ≤ 8) (hrm : 1 ≤ rm.frames ∧ 21 ≤ rm.locals) (ha : -2147483648 ≤ a ∧ a < 2147483648) (hb : -2147483648 ≤ b ∧ b < 2147483648) (k : Wc K G (pc + 3) vs (.int (iI (if b < a then b else a)) :: rest) gs) : Wc K G pc vs (.int (iI b) :: .int (iI a) :: rest) gs := by
  intro H locs ls hP hD hS hl
  have hR := C.R
  have hn := C.n
  refine va_mmin C.x C.b (C.ml.trans hl.1.symm) C.o (C.t _ hw) (C.t _ hs) (C.t _ hi) (C.t _ hc) (by rw [hR]; exact hrm.1) (by rw [hR]; omega) (by rw [hR]; exact hn.1) (by rw [hR]; exact hn.2) hd ?_
  have e : (if iI b < iI a then iI b else iI a) = iI (if b < a then b else a) := by
    by_cases h : b < a
    · rw [if_pos h, if_pos ((iI_lt hb ha).mpr h)]
    · rw [if_neg h, if_neg (fun q => h ((iI_lt hb ha).mp q))]
  rw [e]
  exact k H locs ls hP hD hS hl
/-- System.arraycopy of a whole row of ints into another of its length -/
theorem r_copy (C : Cf K l G cc own ret rm) {idx a0 a1 n : Nat} {g0 g1 g' : va_W} {gs' : List va_W} {F0' F1' : Int → Int} (i0 q0 i1 q1 : Nat) (hd : decode cc pc = .ok (.invokestatic idx, 3)) (hw : Cond.methodLink own idx arraycopyName ∈ lw_g) (hna : Cond.native arraycopyName ∈ lw_g) (hs : Cond.static arraycopyName ∈ lw_g) (hi : Cond.initialized "java/lang/System" ∈ lw_g) (hg0 : gs[i0]? = some g0) (he0 : g0[q0]? = some (a0, ia G.2.1 n F0')) (hg1 : gs[i1]? = some g1) (he1 : g1[q1]? = some (a1, ia G.2.1 n F1')) (hn : n < 2147483648) (hro : (rest.map fun v => v.category).sum ≤ 8) (hrm : 1 ≤ rm.frames ∧ 8 + (nativeFrameWords "java/lang/System" "arraycopy" 5 + 11) ≤ rm.locals) (hg' : g1.set q1 (a1, ia G.2.1 n F0') = g') (hgs : gs.set i1 g' = gs') (k : Wc K G (pc + 3) vs rest gs') : Wc K G pc vs (.int (iI (n : Int)) :: .int (iI 0) :: .ref a1 :: .int (iI 0) :: .ref a0 :: rest) gs := by
  intro H locs ls hP hD hS hl
  subst hg' hgs
  have hR := C.R
  have hq1 := (List.getElem?_eq_some_iff.mp he1).1
  have e1 : (iI (n : Int)).toNatClampNeg = n := by rw [iI_clamp (by omega)]; omega
  have e2 : (iI 0).toNatClampNeg = 0 := rfl
  have h0 : ¬ (iI 0 : Int32) < 0 := by decide
  have hnn : ¬ iI (n : Int) < 0 := fun q => by
    have := (iI_lt (a := (n : Int)) (b := 0) (by omega) (by omega)).mp q
    omega
  refine va_copyi C.x C.b (C.ml.trans hl.1.symm) C.o (C.t _ hw) (C.t _ hna) (C.t _ hs) (C.t _ hi) C.k hP hD.va hS (offG gs i0 + q0) (offG gs i1 + q1) 0 0 (off_get hg0 he0) (off_get hg1 he1) rfl rfl rfl h0 h0 hnn (by rw [e1, e2]; omega) (by rw [e1, e2]; omega) (fun i _ => rfl) (by rw [hR]; exact hrm.1) (by rw [hR]; omega) hd (fun H1 locs1 hP1 hD1 hS1 => ?_)
  have hat : va_at G.1 vwCl (a1, ia G.2.1 n F0') H1 := by
    have h2 := va_P_mem.mp hP1 (a1, .inl (G.2.1, n, .inl (va_cpy (fun j : Nat => iI (F0' (j : Int))) (fun j : Nat => iI (F1' (j : Int))) (iI 0).toNatClampNeg (iI 0).toNatClampNeg (iI (n : Int)).toNatClampNeg))) (List.mem_of_getElem? (i := offG gs i1 + q1) (List.getElem?_set_self (List.getElem?_eq_some_iff.mp (off_get hg1 he1)).1))
    show H1[a1]? = some (vp_cell G.2.1 (n, .inl (fun j : Nat => iI (F0' (j : Int)))))
    refine (show H1[a1]? = _ from h2).trans ?_
    rw [e1, e2]
    dsimp only
    rw [vp_cell_i, vp_cell_i]
    congr 1
    unfold arrV
    congr 1
    congr 1
    funext j
    have hj := j.isLt
    show Value.int (va_cpy _ _ 0 0 n j.val) = _
    unfold va_cpy
    rw [if_pos (by omega)]
    simp
  have hPn : PG G.1 (gs.set i1 (g1.set q1 (a1, ia G.2.1 n F0'))) H1 := by
    unfold PG
    rw [← off_set hg1 hq1]
    rw [va_P_mem]
    intro q hq
    obtain ⟨j, hj⟩ := List.getElem?_of_mem hq
    by_cases e : offG gs i1 + q1 = j
    · subst e
      rw [List.getElem?_set_self (List.getElem?_eq_some_iff.mp (off_get hg1 he1)).1] at hj
      cases hj
      exact hat
    · rw [List.getElem?_set_ne e] at hj
      exact va_P_mem.mp hP1 q (List.mem_of_getElem? (i := j) (by rw [List.getElem?_set_ne e]; exact hj))
  have e : shp (gs.set i1 (g1.set q1 (a1, ia G.2.1 n F0'))) = shp gs := by
    refine shp_set hg1 ?_
    rw [List.map_set]
    apply List.ext_getElem?
    intro j
    by_cases hj : q1 = j
    · subst hj
      rw [List.getElem?_set_self', List.getElem?_map, he1]
      rfl
    · rw [List.getElem?_set_ne hj]
  exact k H1 locs1 ls hPn (hD.same e) hS1 hl
end
