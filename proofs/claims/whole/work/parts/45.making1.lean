/-! makings: cells come -/
def kat (K : KT) (n t : Nat) : KT := (kp K, kl K, ke K, kR K, ks K, km K, ka K, kb K, kme K, kc K, n, t, kQ K, kA K, kL K)
theorem sub_self (vm : Vm) {c : ClassId} (h : c < vm.classes.size) : vm.isSubclassAux vm.classes.size c c = true := by
  have h0 : 0 < vm.classes.size := Nat.lt_of_le_of_lt (Nat.zero_le _) h
  obtain ⟨m, hm⟩ : ∃ m, vm.classes.size = m + 1 := ⟨vm.classes.size - 1, by omega⟩
  rw [hm, Vm.isSubclassAux]
  simp
theorem sup_as {s : State} {A : Array Value} {C E : String} (h1 : (Cond.superclass C E).before A s = true) (h2 : (Cond.superclass E "java/lang/Object").before A s = true) (comp c0 : ClassId) (hE : s.vm.findClass E = some comp) (hC : s.vm.findClass C = some c0) : s.vm.assignable c0 comp = true := by
  obtain ⟨p, k, kp, q1, q2, q3, q4, q5, q6, q7⟩ := Cond.superclass_spec hC h1
  cases q1.symm.trans hE
  obtain ⟨p2, k2, kp2, r1, r2, r3, r4, r5, r6, r7⟩ := Cond.superclass_spec hE h2
  cases q3.symm.trans r2
  have hlt := (Array.getElem?_eq_some_iff.mp q3).1
  have hs : s.vm.isSubclass c0 comp = true := by
    unfold Vm.isSubclass
    rw [Vm.isSubclassAux]
    simp only [q2, q4, sub_self s.vm hlt, Bool.or_true]
  show s.vm.assignableAux (255 + 1) c0 comp = true
  rw [Vm.assignableAux]
  simp only [q2, q3, q5, q6, r7, hs]
  simp
theorem sup_as2 {s : State} {A : Array Value} {C D E : String} (h1 : (Cond.superclass C D).before A s = true) (h2 : (Cond.superclass D E).before A s = true) (h3 : (Cond.superclass E "java/lang/Object").before A s = true) (comp c0 : ClassId) (hE : s.vm.findClass E = some comp) (hC : s.vm.findClass C = some c0) : s.vm.assignable c0 comp = true := by
  obtain ⟨d, k, kd, q1, q2, q3, q4, q5, q6, q7⟩ := Cond.superclass_spec hC h1
  obtain ⟨p, k1, kp, w1, w2, w3, w4, w5, w6, w7⟩ := Cond.superclass_spec q1 h2
  cases w1.symm.trans hE
  obtain ⟨p2, k2, kp2, r1, r2, r3, r4, r5, r6, r7⟩ := Cond.superclass_spec hE h3
  cases q3.symm.trans w2
  cases w3.symm.trans r2
  have hlt := (Array.getElem?_eq_some_iff.mp w3).1
  have hlt0 := (Array.getElem?_eq_some_iff.mp q2).1
  show s.vm.assignableAux (255 + 1) c0 comp = true
  by_cases e : c0 = comp
  · rw [Vm.assignableAux, e]
    simp
  · have hs : s.vm.isSubclass c0 comp = true := by
      have e2 := Nat.lt_or_gt_of_ne (a := c0) (b := comp) e
      have hlt' : (comp : Nat) < s.vm.classes.size := hlt
      have hlt0' : (c0 : Nat) < s.vm.classes.size := hlt0
      obtain ⟨m, hm⟩ : ∃ m, s.vm.classes.size = (m + 1) + 1 := ⟨s.vm.classes.size - 2, by omega⟩
      have h9 := sub_self s.vm hlt
      unfold Vm.isSubclass
      rw [Vm.isSubclassAux]
      simp only [q2, q4]
      rw [hm, Vm.isSubclassAux]
      simp only [q3, w4]
      rw [Vm.isSubclassAux]
      simp
    rw [Vm.assignableAux]
    simp only [q2, w3, q5, w6, r7, hs]
    simp
theorem DG.of {A : Nat → Prop} {gs : List va_W} (h : va_D A gs.flatten) : DG A gs := by
  unfold DG
  rw [shp_fl]
  refine ⟨?_, fun q hq => ?_⟩
  · unfold List.Nodup
    rw [List.pairwise_iff_getElem]
    intro i j hi hj hij e
    rw [List.getElem_map, List.getElem_map] at e
    rw [List.length_map] at hi hj
    have := h.1 i j _ _ (List.getElem?_eq_getElem hi) (List.getElem?_eq_getElem hj) e
    omega
  · obtain ⟨x, hx, rfl⟩ := List.mem_map.mp hq
    obtain ⟨k, hk⟩ := List.getElem?_of_mem hx
    exact h.2 k x hk
theorem fl_push {gs : List va_W} {x : Nat × va_E} : (gs ++ [[x]]).flatten = gs.flatten ++ [x] := by
  rw [List.flatten_append]
  rfl
section
variable {K : KT} {l : Launch} {G : GT} {cc : ByteArray} {own : String} {ret : Option FieldType} {rm : Room} {pc : Nat} {vs : List (Option Value)} {st : List Value} {gs : List va_W} {n t n' t' : Nat}
theorem Cf_kat {a b : Nat} (C : Cf (kat K a b) l G cc own ret rm) (n t : Nat) (hn : n ≤ rm.cells) (ht : t ≤ rm.slots) : Cf (kat K n t) l G cc own ret rm :=
  ⟨C.1, C.2.1, C.2.2.1, C.2.2.2.1, C.2.2.2.2.1, C.2.2.2.2.2.1, C.2.2.2.2.2.2.1, C.2.2.2.2.2.2.2.1, C.2.2.2.2.2.2.2.2.1, C.2.2.2.2.2.2.2.2.2.1, C.2.2.2.2.2.2.2.2.2.2.1, hn, ht⟩
theorem r_new (C : Cf (kat K n t) l G cc own ret rm) (hA : ∀ q, (ks K).heap.size ≤ q → kA K q) {C0 : String} {T : u_T} {N ci idx : Nat} {fs : List Value} {ty : Nat → FieldType} (hd : decode cc pc = .ok (.new idx, 3)) (hin : ∀ w ∈ u_ws C0 T N, w ∈ lw_g) (hty : ∀ k, k < N → parseFieldDescriptor (T k).2.2.1 = some (ty k)) (hcl : Cond.classLink own idx C0 ∈ lw_g) (hinst : Cond.instantiable C0 N ∈ lw_g) (hini : Cond.initialized C0 ∈ lw_g) (hc : vwCl[ci]? = some (C0, T, N)) (hfs : ∀ j, j < N → defaultValue (ty j) = vp_V fs j) (hn : n + 1 = n') (ht : t + N = t') (hr : n' ≤ rm.cells ∧ t' ≤ rm.slots) (k : ∀ q : Nat, Wc (kat K n' t') G (pc + 3) vs (.ref q :: st) (gs ++ [[(q, .inr (ci, fs))]])) : Wc (kat K n t) G pc vs st gs := by
  intro H locs ls hP hD hS hl
  subst hn ht
  refine va_new (T := T) (H0 := (ks K).heap) C.x C.b C.t hin ty hty C.o (C.t _ hcl) (C.t _ hinst) (C.t _ hini) C.k hP hD.va hS hA hc hfs (by rw [C.R]; exact hr.1) (by rw [C.R]; exact hr.2) hd (fun q H1 hP1 hD1 hS1 => ?_)
  exact k q H1 locs ls (by unfold PG; rw [fl_push]; exact hP1) (DG.of (by rw [fl_push]; exact hD1)) hS1 hl
theorem r_newI (C : Cf (kat K n t) l G cc own ret rm) (hA : ∀ q, (ks K).heap.size ≤ q → kA K q) {z : Int} (N : Nat) (hd : decode cc pc = .ok (.newarray .int, 2)) (hac : Cond.arrayClass .int ∈ lw_g) (hz : z = (N : Int)) (hN : N < 1000) (hn : n + 1 = n') (ht : t + N = t') (hr : n' ≤ rm.cells ∧ t' ≤ rm.slots) (k : ∀ q : Nat, Wc (kat K n' t') G (pc + 2) vs (.ref q :: st) (gs ++ [[(q, ia G.2.1 N (fun _ => 0))]])) : Wc (kat K n t) G pc vs (.int (iI z) :: st) gs := by
  intro H locs ls hP hD hS hl
  subst hn ht hz
  refine va_newa (atype := .int) (ty := .int) (N' := N) (H0 := (ks K).heap) (a0 := (N, .inl (fun _ => iI 0))) C.x C.b (C.t _ hac) rfl C.k hP hD.va hS hA (fun cA => rfl) ?_ ?_ ?_ (by rw [C.R]; exact hr.1) (by rw [C.R]; exact hr.2) hd (fun q cA H1 hK1 hP1 hD1 hS1 => ?_)
  · intro q
    have := (iI_lt (a := (N : Int)) (b := 0) (by omega) (by omega)).mp q
    omega
  · rw [iI_clamp (by omega)]
    omega
  · show N * 4 ≤ _
    omega
  · have h1 : (ks K).vm.findClass ("[" ++ FieldType.int.toString) = some G.2.1 := (C.k.2 0 _ rfl).2
    have h2 : (ks K).vm.findClass ("[" ++ FieldType.int.toString) = some cA := (hK1.2 2 _ rfl).2
    cases h1.symm.trans h2
    exact k q H1 locs ls (by unfold PG; rw [fl_push]; exact hP1) (DG.of (by rw [fl_push]; exact hD1)) hS1 hl
theorem r_newQ (C : Cf (kat K n t) l G cc own ret rm) (hA : ∀ q, (ks K).heap.size ≤ q → kA K q) {z : Int} {idx : Nat} (N : Nat) (hd : decode cc pc = .ok (.anewarray idx, 3)) (hcl : Cond.classLink own idx RX1 ∈ lw_g) (hz : z = (N : Int)) (hN : N < 1000) (hn : n + 1 = n') (ht : t + N = t') (hr : n' ≤ rm.cells ∧ t' ≤ rm.slots) (k : ∀ q : Nat, Wc (kat K n' t') G (pc + 3) vs (.ref q :: st) (gs ++ [[(q, qa G.2.2.1 N (fun _ => none))]])) : Wc (kat K n t) G pc vs (.int (iI z) :: st) gs := by
  intro H locs ls hP hD hS hl
  subst hn ht hz
  refine va_newq (N' := N) (H0 := (ks K).heap) C.x C.b C.o (C.t _ hcl) C.z.2.2.2.2.2 C.k hP hD.va hS hA ?_ ?_ ?_ (by rw [C.R]; exact hr.1) (by rw [C.R]; exact hr.2) hd (fun q cA H1 hK1 hP1 hD1 hS1 => ?_)
  · intro q
    have := (iI_lt (a := (N : Int)) (b := 0) (by omega) (by omega)).mp q
    omega
  · rw [iI_clamp (by omega)]
    omega
  · omega
  · obtain ⟨_, _, _, _, _, h1⟩ := (C.k.2 1 _ rfl).2
    obtain ⟨_, _, _, _, _, h2⟩ := (hK1.2 2 _ rfl).2
    cases h1.symm.trans h2
    exact k q H1 locs ls (by unfold PG; rw [fl_push]; exact hP1) (DG.of (by rw [fl_push]; exact hD1)) hS1 hl
theorem r_objInit (C : Cf K l G cc own ret rm) {idx a : Nat} (hd : decode cc pc = .ok (.invokespecial idx, 3)) (hw : Cond.methodLink own idx Lib.objectInit ∈ lw_g) (hi : Cond.instanceMethod Lib.objectInit ∈ lw_g) (hc : Cond.code Lib.objectInit ⟨#[0xb1]⟩ 1 none ∈ lw_g) (hro : (st.map fun v => v.category).sum ≤ 8) (hrm : 1 ≤ rm.frames ∧ 20 ≤ rm.locals) (k : Wc K G (pc + 3) vs st gs) : Wc K G pc vs (.ref a :: st) gs := by
  intro H locs ls hP hD hS hl
  refine W.objInit C.x C.b C.o (C.t _ hw) (C.t _ hi) (C.t _ hc) rfl (by rw [C.ml]; exact hl.1) rfl hd (by rw [C.R]; exact hrm.1) (by rw [C.R]; show 2 * 0 + _ + 12 ≤ _; omega) ?_
  exact k H locs ls hP hD hS hl
theorem r_putF (C : Cf K l G cc own ret rm) (hin2 : (kme K).name = "<init>") {C0 ref : String} {T : u_T} {N ci idx a : Nat} {g g' : va_W} {gs' : List va_W} {fs : List Value} {v : Value} {ty : FieldType} {ty0 : Nat → FieldType} (i q0 f : Nat) (hd : decode cc pc = .ok (.putfield idx, 3)) (hin : ∀ w ∈ u_ws C0 T N, w ∈ lw_g) (hty : ∀ k, k < N → parseFieldDescriptor (T k).2.2.1 = some (ty0 k)) (hnm : ∀ a, a < N → ∀ b, b < N → a ≠ b → (T a).2.1 ≠ (T b).2.1) (hg : gs[i]? = some g) (he : g[q0]? = some (a, .inr (ci, fs))) (hc : vwCl[ci]? = some (C0, T, N)) (hf : f < N) (hw : Cond.fieldLink own idx ref (T f).2.1 (T f).2.2.1 ∈ lw_g) (hs : (T f).1 = ref) (hfin : (T f).2.2.2 = true) (hdecl : (T f).1 = own) (hpd : parseFieldDescriptor (T f).2.2.1 = some ty) (hn : narrow ty v = v) (hfit : fits ty v = true) (hlen : f < fs.length)
    (hg' : g.set q0 (a, .inr (ci, fs.set f v)) = g') (hgs : gs.set i g' = gs') (k : Wc K G (pc + 3) vs st gs') : Wc K G pc vs (v :: .ref a :: st) gs := by
  intro H locs ls hP hD hS hl
  subst hg' hgs
  have hq := (List.getElem?_eq_some_iff.mp he).1
  refine va_putF (T := T) C.x C.b C.t hin ty0 hty hnm C.o C.k hP hD.va hS (offG gs i + q0) (off_get hg he) hc f hf (C.t _ hw) (fun x hx => by rw [← hs]; exact hx) hfin hin2 hdecl hpd hn hfit hlen hd (fun H1 locs1 hP1 hD1 hS1 => ?_)
  rw [off_set hg hq] at hP1
  have e : shp (gs.set i (g.set q0 (a, .inr (ci, fs.set f v)))) = shp gs := by
    refine shp_set hg ?_
    rw [List.map_set]
    apply List.ext_getElem?
    intro j
    by_cases hj : q0 = j
    · subst hj
      rw [List.getElem?_set_self', List.getElem?_map, he]
      rfl
    · rw [List.getElem?_set_ne hj]
  exact k H1 locs1 ls hP1 (hD.same e) hS1 hl
theorem r_aast (C : Cf K l G cc own ret rm) {a N v ci : Nat} {z : Int} {g1 g2 g' : va_W} {gs' : List va_W} {fs : List Value} {r : vw_C} {F : Nat → Option Nat} (i1 q1 i2 q2 : Nat) (hd : decode cc pc = .ok (.aastore, 1)) (hg1 : gs[i1]? = some g1) (he1 : g1[q1]? = some (a, qa G.2.2.1 N F)) (hg2 : gs[i2]? = some g2) (he2 : g2[q2]? = some (v, .inr (ci, fs))) (hc : vwCl[ci]? = some r) (hca : ∀ comp c0 : ClassId, (ks K).vm.findClass RX1 = some comp → (ks K).vm.findClass r.1 = some c0 → (ks K).vm.assignable c0 comp = true) (hN : N < 1000) (hz : 0 ≤ z ∧ z < N) (hg' : g1.set q1 (a, qa G.2.2.1 N (va_up F z.toNat (some v))) = g') (hgs : gs.set i1 g' = gs') (k : Wc K G (pc + 1) vs st gs') : Wc K G pc vs (.ref v :: .int (iI z) :: .ref a :: st) gs := by
  intro H locs ls hP hD hS hl
  subst hg' hgs
  have hq := (List.getElem?_eq_some_iff.mp he1).1
  have ez : (iI z).toNatClampNeg = z.toNat := iI_clamp (by omega)
  have fin : ∀ (H1 : Heap) (locs1 : List Loc), va_P G.1 vwCl (gs.flatten.set (offG gs i1 + q1) (a, .inl (G.2.2.1, N, .inr (.inr (.inr (.inr (va_up F (iI z).toNatClampNeg (some v)))))))) H1 → va_S (kA K) (ks K).heap H1 locs1 → W (kp K) (kl K) (ke K) (kR K) (ks K) (km K) (ka K) (kb K) (kme K) (kc K) H1 locs1 (kn K) (kt K) (kQ K) (F0 (km K) (pc + 1) ls st) := by
    intro H1 locs1 hP1 hS1
    rw [ez] at hP1
    have hP1 : va_P G.1 vwCl (gs.flatten.set (offG gs i1 + q1) (a, qa G.2.2.1 N (va_up F z.toNat (some v)))) H1 := hP1
    rw [off_set hg1 hq] at hP1
    have e : shp (gs.set i1 (g1.set q1 (a, qa G.2.2.1 N (va_up F z.toNat (some v))))) = shp gs := by
      refine shp_set hg1 ?_
      rw [List.map_set]
      apply List.ext_getElem?
      intro j
      by_cases hj : q1 = j
      · subst hj
        rw [List.getElem?_set_self', List.getElem?_map, he1]
        rfl
      · rw [List.getElem?_set_ne hj]
    exact k H1 locs1 ls hP1 (hD.same e) hS1 hl
  have hvp : vp_in (iI z) N := iI_in hz (by omega)
  exact va_astqM C.x C.b C.k hP hD.va hS (offG gs i1 + q1) 1 (E := RX1) (off_get hg1 he1) rfl (va_rAny C.k hP (off_get hg2 he2) hc hca) hvp hd (fun H1 locs1 hP1 _ hS1 => fin H1 locs1 hP1 hS1)
end
/-! a making's contract -/
def Am (gs : List va_W) (sz : Nat) : Nat → Prop := fun q => Ad gs q ∨ sz ≤ q
def Pm (G : GT) (av : List Value) (gs : List va_W) (sz : Nat) : Array Value → State → Prop := fun a U => a = av.toArray ∧ U.heap.size = sz ∧ PG G.1 gs U.heap ∧ (shp gs).flatten.Nodup ∧ va_K G.1 vwCl (tyG G) U ∧ SF G (Am gs sz) U U.heap
def Qm (gs : List va_W) (sz : Nat) (G : GT) (Post : List va_W → Prop) : Array Value → State → Outcome → State → Prop := fun _ s o t => ∃ gs' : List va_W, o = .returned none ∧ Post gs' ∧ PG G.1 gs' t.heap ∧ DG (Am gs sz) gs' ∧ va_F (Am gs sz) s t
def Cm (l : Launch) (y : MethodName) (bytes : ByteArray) (maxL : Nat) (rm : Room) (G : GT) (av : List Value) (gs : List va_W) (sz : Nat) (Post : List va_W → Prop) (mc ms : Nat) : Prop :=
  Met l y (wU y bytes maxL none) rm (Pm G av gs sz) (Qm gs sz G Post) mc ms (Am gs sz)
def Rm (K : KT) (G : GT) (gs0 : List va_W) (sz : Nat) (Post : List va_W → Prop) (mc ms : Nat) : Prop := kQ K = MQ (kb K) (Qm gs0 sz G Post) (ka K) (ks K) mc ms (Am gs0 sz) ∧ kA K = Am gs0 sz ∧ (∀ q, (ks K).heap.size ≤ q → kA K q) ∧ (kme K).name = "<init>"
theorem Cm_in {l : Launch} {y : MethodName} {bytes : ByteArray} {maxL : Nat} {rm : Room} {G : GT} {av : List Value} {gs : List va_W} {sz : Nat} {Post : List va_W → Prop} {mc ms : Nat} (own : String) (vs : List (Option Value)) (hy : plainName y.cls = true) (ho : y.cls = own) (hyn : y.name = "<init>") (hc : av.all (fun v => v.category == 1) = true) (hvs : av.map some ++ List.replicate (maxL - av.length) none = vs) (hm : av.length ≤ maxL) (body : ∀ K : KT, Cf (kat K 0 0) l G bytes own none rm → Rm K G gs sz Post mc ms → Wc (kat K 0 0) G 0 vs [] gs) : Cm l y bytes maxL rm G av gs sz Post mc ms := by
  refine Met.ofW (cc := bytes) (maxL := maxL) (ret := none) hy rfl ?_
  intro p e s m args below meth c s₁ B hml hv
  obtain ⟨rfl, hsz, hP, hN, hK, hZ⟩ := hv
  have hcat : ∀ v ∈ av, v.category = 1 := fun v h => by simpa using List.all_eq_true.mp hc v h
  have hsl : lg_sl av = av.map Slot.val := by
    clear hP hZ hvs hm body B
    induction av with
    | nil => rfl
    | cons v r ih =>
      show (if v.category = 2 then [Slot.val v, Slot.second] else [Slot.val v]) ++ lg_sl r = _
      rw [if_neg (by rw [hcat v List.mem_cons_self]; decide), ih (List.all_eq_true.mpr (fun w hw => by simpa using hcat w (List.mem_cons_of_mem _ hw))) (fun w hw => hcat w (List.mem_cons_of_mem _ hw))]
      rfl
  have hlen : (lg_sl av).length ≤ maxL := by rw [hsl, List.length_map]; exact hm
  have hle := lv_entry av hlen
  rw [lg_entry_eq]
  have hts := atoms_spec (ws := wU y bytes maxL none) B.pre
  have hLV : LV ((lg_sl av ++ List.replicate (maxL - (lg_sl av).length) Slot.unset).toArray) maxL vs := by
    refine ⟨hle.1, hle.2.1, ?_, fun i v hi => ?_⟩
    · rw [← hvs, List.length_append, List.length_map, List.length_replicate]
      omega
    · rw [← hvs] at hi
      by_cases h : i < av.length
      · rw [List.getElem?_append_left (by rw [List.length_map]; exact h), List.getElem?_map] at hi
        cases hq : av[i]? with
        | none => rw [hq] at hi; cases hi
        | some w =>
          rw [hq] at hi
          have e : w = v := Option.some.inj (Option.some.inj hi)
          subst e
          refine ⟨hcat w (List.mem_of_getElem? hq), ?_⟩
          rw [List.getElem?_toArray, hsl, List.getElem?_append_left (by rw [List.length_map]; exact h), List.getElem?_map, hq]
          rfl
      · rw [List.getElem?_append_right (by rw [List.length_map]; omega), List.getElem?_replicate] at hi
        split at hi <;> cases hi
  refine body (p, l, e, (headSpec (wU y bytes maxL none) rm).room, s, m, av.toArray, below, meth, c, 0, 0, MQ below (Qm gs sz G Post) av.toArray s mc ms (Am gs sz), Am gs sz, maxL) ⟨B.exec, B.bytes, B.returns, B.notSynchronized, hml, ?_, fun w hw => hts w (List.mem_cons_of_mem _ hw), hK, hZ, rfl, rfl, Nat.zero_le _, Nat.zero_le _⟩ ⟨rfl, rfl, fun q hq => Or.inr (by rw [← hsz]; exact hq), (name_of_methodNamed B.named B.method).1.trans hyn⟩ _ _ _ hP ⟨hN, fun q hq => Or.inl hq⟩ va_S.rf hLV
  rw [← ho]
  exact findClass_of_methodNamed B.named
section
variable {K : KT} {l : Launch} {G : GT} {cc : ByteArray} {own : String} {ret : Option FieldType} {rm : Room} {pc : Nat} {vs : List (Option Value)} {st : List Value} {gs : List va_W} {n t n' t' : Nat}
/-- a making's end: the cells, in the order in which it tells them -/
theorem r_mret {mc ms sz : Nat} {gs0 gs' : List va_W} {Post : List va_W → Prop} (C : Cf (kat K mc ms) l G cc own none rm) (hq : Rm K G gs0 sz Post mc ms) (hd : decode cc pc = .ok (.return_, 1)) (is : List Nat) (his : is.map (fun i => gs.flatten[i]?) = gs'.flatten.map some) (hnd : va_nd is = true) (h : Post gs') : Wc (kat K mc ms) G pc vs [] gs := by
  intro H locs ls hP hD hS hl
  obtain ⟨hq1, hq2, -, -⟩ := hq
  have hS : va_S (kA K) (ks K).heap H locs := hS
  have hD : DG (kA K) gs := hD
  rw [hq2] at hS hD
  show W _ _ _ _ _ _ _ _ _ _ _ _ _ _ (kQ K) _
  rw [hq1]
  have hPn : PG G.1 gs' H := fun k q hk => by
    obtain ⟨i, -, hi⟩ : ∃ i, is[k]? = some i ∧ gs.flatten[i]? = some q := by
      have h1 : (is.map (fun i => gs.flatten[i]?))[k]? = some (some q) := by rw [his, List.getElem?_map, hk]; rfl
      rw [List.getElem?_map] at h1
      cases hi : is[k]? with
      | none => rw [hi] at h1; cases h1
      | some i => rw [hi] at h1; exact ⟨i, rfl, Option.some.inj h1⟩
    exact hP i q hi
  have hDn : DG (Am gs0 sz) gs' := DG.of (hD.va.sub is hnd his)
  exact W.vret C.x C.b C.r (fun t ht _ => ⟨gs', rfl, h, by rw [ht]; exact hPn, hDn, hS.F ht⟩) hS.2.2 hd C.lk
end

section
variable {K : KT} {l : Launch} {G : GT} {cc : ByteArray} {own : String} {ret : Option FieldType} {rm : Room} {pc : Nat} {vs : List (Option Value)} {rest : List Value} {gs gs1 : List va_W} {n t n' t' : Nat}
theorem shp_app {g1 g2 : List va_W} : (shp (g1 ++ g2)).flatten = (shp g1).flatten ++ (shp g2).flatten := by
  unfold shp
  rw [List.map_append, List.flatten_append]
/-- what a making asks, out of what its caller has -/
theorem mk_pre (C : Cf (kat K n t) l G cc own ret rm) (hA : ∀ q, (ks K).heap.size ≤ q → kA K q) {b : Nat} {e0 : va_E} (hgs : gs = gs1 ++ [[(b, e0)]]) {H : Heap} {locs : List Loc} (hP : PG G.1 gs H) (hD : DG (kA K) gs) (hS : va_S (kA K) (ks K).heap H locs) : (∀ q, Am [[(b, e0)]] H.size q → kA K q) ∧ FrameBlind (Pm G [.ref b] [[(b, e0)]] H.size) ∧ ∀ U : State, U.heap = H → (ks K).WarmedH U.vm → Pm G [.ref b] [[(b, e0)]] H.size ([.ref b] : List Value).toArray U := by
  subst hgs
  have hb : kA K b := hD.2 b (by rw [shp_app]; exact List.mem_append_right _ List.mem_cons_self)
  have hAm : ∀ q, Am [[(b, e0)]] H.size q → kA K q := fun q hq => by
    rcases hq with hq | hq
    · have : q = b := by simpa [Ad] using hq
      rw [this]
      exact hb
    · exact hA q (Nat.le_trans hS.1 hq)
  refine ⟨hAm, fun a U g mk q => ⟨q.1, q.2.1, q.2.2.1, q.2.2.2.1, va_K.moved (u := U) (U := U.calling g mk a) (Vm.Alike.refl U.vm) q.2.2.2.2.1, SF.calling g mk a q.2.2.2.2.2⟩, fun U hU hW => ⟨rfl, by rw [hU], ?_, ?_, va_K.moved hW.alike C.k, ?_⟩⟩
  · rw [hU]
    rw [PG.mem] at hP ⊢
    intro g hg
    exact hP g (List.mem_append_right _ hg)
  · exact List.nodup_cons.mpr ⟨List.not_mem_nil, List.nodup_nil⟩
  · rw [hU]
    exact ((C.z.kept hS.2.1).narrow hAm).warm hW
theorem mk_core (hA : ∀ q, (ks K).heap.size ≤ q → kA K q) {b mc ms : Nat} {e0 : va_E} {Post : List va_W → Prop} {a : Array Value} {st0 : List Value} (hgs : gs = gs1 ++ [[(b, e0)]]) (hn : n + mc = n') (ht : t + ms = t')
    (hr : ∀ (H : Heap) (locs : List Loc) (ls : Array Slot), PG G.1 gs H → DG (kA K) gs → va_S (kA K) (ks K).heap H locs → LV ls (kL K) vs → va_Run (kp K) (kl K) (ke K) (kR K) (ks K) (km K) (ka K) (kb K) (kme K) (kc K) H locs n t mc ms (F0 (km K) pc ls st0) rest (Qm [[(b, e0)]] H.size G Post a) (Am [[(b, e0)]] H.size))
    (kk : ∀ gs' : List va_W, Post gs' → Wc (kat K n' t') G (pc + 3) vs rest (gs1 ++ gs')) : Wc (kat K n t) G pc vs st0 gs := by
  subst hn ht
  intro H locs ls hP hD hS hl T hT X
  have hP : PG G.1 gs H := hP
  have hD : DG (kA K) gs := hD
  have hS : va_S (kA K) (ks K).heap H locs := hS
  obtain ⟨v, st₀, t2, T', L, h0, X', hL, e1, e2, ⟨gs', ho, hpost, hPG, hDG, hF⟩, st⟩ := hr H locs ls hP hD hS hl T hT X
  cases ho
  obtain ⟨hF1, hF2⟩ := hF
  rw [h0] at hF1 hF2
  rw [← e1] at hF1 hF2 hPG
  subst hgs
  have hsh : (shp (gs1 ++ [[(b, e0)]])).flatten = (shp gs1).flatten ++ [b] := by rw [shp_app]; rfl
  have hDn := hD.1
  have hDA := hD.2
  rw [hsh] at hDn hDA
  have hn3 := List.nodup_append.mp hDn
  have hb : kA K b := hDA b (List.mem_append_right _ List.mem_cons_self)
  have hAm : ∀ q, Am [[(b, e0)]] H.size q → kA K q := fun q hq => by
    rcases hq with hq | hq
    · have : q = b := by simpa [Ad] using hq
      rw [this]
      exact hb
    · exact hA q (Nat.le_trans hS.1 hq)
  have hlt : ∀ q ∈ (shp gs1).flatten, q < H.size ∧ q ≠ b := by
    intro q hq
    refine ⟨?_, fun e => hn3.2.2 q hq b List.mem_cons_self e⟩
    rw [shp_fl] at hq
    obtain ⟨x, hx, rfl⟩ := List.mem_map.mp hq
    have hx2 : x ∈ (gs1 ++ [[(b, e0)]]).flatten := by
      rw [List.flatten_append]
      exact List.mem_append_left _ hx
    exact (va_P_mem.mp hP x hx2).lt
  have hout : ∀ q ∈ (shp gs1).flatten, ¬ Am [[(b, e0)]] H.size q := by
    intro q hq hAq
    obtain ⟨h1, h2⟩ := hlt q hq
    rcases hAq with h | h
    · exact h2 (by simpa [Ad] using h)
    · omega
  have hPn : PG G.1 (gs1 ++ gs') T'.heap := by
    rw [PG.mem] at hPG ⊢
    intro g hg q hq
    rcases List.mem_append.mp hg with h | h
    · have hat := PG.mem.mp hP g (List.mem_append_left _ h) q hq
      have hm : q.1 ∈ (shp gs1).flatten := List.mem_flatten.mpr ⟨g.map Prod.fst, List.mem_map.mpr ⟨g, h, rfl⟩, List.mem_map.mpr ⟨q, hq, rfl⟩⟩
      exact hat.kept (hF2 q.1 hat.lt (hout q.1 hm))
    · exact hPG g h q hq
  have hDnew : DG (kA K) (gs1 ++ gs') := by
    unfold DG
    rw [shp_app]
    refine ⟨List.nodup_append.mpr ⟨hn3.1, hDG.1, fun x hx y hy e => hout x hx (by rw [e]; exact hDG.2 y hy)⟩, fun q hq => ?_⟩
    rcases List.mem_append.mp hq with h | h
    · exact hDA q (List.mem_append_left _ h)
    · exact hAm q (hDG.2 q h)
  obtain ⟨t3, a1, b1⟩ := kk gs' hpost T'.heap (locs ++ L) ls hPn hDnew
    ⟨Nat.le_trans hS.1 hF1, fun q h1 h2 => by rw [hF2 q (Nat.lt_of_lt_of_le h1 hS.1) (fun z => h2 (hAm q z))]; exact hS.2.1 q h1 h2, fun q hq => by
      rcases List.mem_append.mp hq with h | h
      · exact hS.2.2 q h
      · exact hAm _ (hL q h)⟩ hl T' rfl X'
  exact ⟨t3, st t3 a1, b1⟩
/-- a nest mate's private making -/
theorem r_mkN (C : Cf (kat K n t) l G cc own ret rm) (hA : ∀ q, (ks K).heap.size ≤ q → kA K q) {y : MethodName} {bytes : ByteArray} {maxL idx mc ms b : Nat} {host : String} {rmc : Room} {e0 : va_E} {Post : List va_W → Prop} (Y : YB y bytes maxL none 0) (hyi : Cond.instanceMethod y ∈ lw_g) (hyn : y.name = "<init>") (hd : decode cc pc = .ok (.invokespecial idx, 3)) (hw : Cond.methodLinkNest own idx y host ∈ lw_n) (hM : ∀ sz, Cm l y bytes maxL rmc G [.ref b] [[(b, e0)]] sz Post mc ms) (gs1 : List va_W) (hgs : gs = gs1 ++ [[(b, e0)]]) (hn : n + mc = n') (ht : t + ms = t') (hr : n' ≤ rm.cells ∧ t' ≤ rm.slots) (hro : (rest.map fun v => v.category).sum ≤ 8) (hrm : rmc.cells = mc ∧ rmc.slots = ms ∧ rmc.frames + 1 ≤ rm.frames ∧ 8 + (maxL + 11) + rmc.locals ≤ rm.locals)
    (kk : ∀ gs' : List va_W, Post gs' → Wc (kat K n' t') G (pc + 3) vs rest (gs1 ++ gs')) : Wc (kat K n t) G pc vs (.ref b :: rest) gs := by
  refine mk_core (a := ([.ref b] : List Value).toArray) hA hgs hn ht (fun H locs ls hP hD hS hl => ?_) kk
  obtain ⟨-, hp1, hp2⟩ := mk_pre C hA hgs hP hD hS
  have hM' : Met (kl K) y (wU y bytes maxL none) rmc (Pm G [.ref b] [[(b, e0)]] H.size) (Qm [[(b, e0)]] H.size G Post) mc ms (Am [[(b, e0)]] H.size) := by
    have h := hM H.size
    rw [← show kl K = l from C.la] at h
    exact h
  have hcw := va_cnB (R := kR K) (own := own) (index := idx) (host := host) (s := ks K) (args := ka K) 0 C.t Y.good rfl hrm.1 hrm.2.1 (C.z.2.2.2.2.1 _ hw) (C.t _ Y.2.1) ⟨Y.2.2.1.1, Y.2.2.1.2, Y.2.2.2⟩ (by rw [show kR K = rm from C.R]; exact hrm.2.2)
  exact va_runIN (As := []) (show CallFix (kp K) (km K) (kc K) cc (kL K) (ks K) (ka K) lw_g own from fixC (K := kat K n t) C) hM' ⟨hcw, hyn, C.t _ hyi⟩ ⟨hp1, hp2⟩ rfl rfl hl.1 rfl (lv_room hro) hd (by rw [show kR K = rm from C.R, hn, ht]; exact hr)
/-- a public making -/
theorem r_mk (C : Cf (kat K n t) l G cc own ret rm) (hA : ∀ q, (ks K).heap.size ≤ q → kA K q) {y : MethodName} {bytes : ByteArray} {maxL idx mc ms b : Nat} {rmc : Room} {e0 : va_E} {Post : List va_W → Prop} (Y : YB y bytes maxL none 0) (hyi : Cond.instanceMethod y ∈ lw_g) (hyn : y.name = "<init>") (hd : decode cc pc = .ok (.invokespecial idx, 3)) (hw : Cond.methodLink own idx y ∈ lw_g) (hM : ∀ sz, Cm l y bytes maxL rmc G [.ref b] [[(b, e0)]] sz Post mc ms) (gs1 : List va_W) (hgs : gs = gs1 ++ [[(b, e0)]]) (hn : n + mc = n') (ht : t + ms = t') (hr : n' ≤ rm.cells ∧ t' ≤ rm.slots) (hro : (rest.map fun v => v.category).sum ≤ 8) (hrm : rmc.cells = mc ∧ rmc.slots = ms ∧ rmc.frames + 1 ≤ rm.frames ∧ 8 + (maxL + 11) + rmc.locals ≤ rm.locals)
    (kk : ∀ gs' : List va_W, Post gs' → Wc (kat K n' t') G (pc + 3) vs rest (gs1 ++ gs')) : Wc (kat K n t) G pc vs (.ref b :: rest) gs := by
  refine mk_core (a := ([.ref b] : List Value).toArray) hA hgs hn ht (fun H locs ls hP hD hS hl => ?_) kk
  obtain ⟨-, hp1, hp2⟩ := mk_pre C hA hgs hP hD hS
  have hM' : Met (kl K) y (wU y bytes maxL none) rmc (Pm G [.ref b] [[(b, e0)]] H.size) (Qm [[(b, e0)]] H.size G Post) mc ms (Am [[(b, e0)]] H.size) := by
    have h := hM H.size
    rw [← show kl K = l from C.la] at h
    exact h
  have hcw := cwI (R := kR K) (own := own) (index := idx) (s := ks K) (args := ka K) 0 C.t Y.good rfl hrm.1 hrm.2.1 (C.t _ Y.2.1) (C.t _ hw) (C.t _ hyi) hyn ⟨Y.2.2.1.1, Y.2.2.1.2, Y.2.2.2⟩ (by rw [show kR K = rm from C.R]; exact hrm.2.2)
  exact va_runI (As := []) (show CallFix (kp K) (km K) (kc K) cc (kL K) (ks K) (ka K) lw_g own from fixC (K := kat K n t) C) hM' hcw ⟨hp1, hp2⟩ rfl rfl hl.1 rfl (lv_room hro) hd (by rw [show kR K = rm from C.R, hn, ht]; exact hr)
end
theorem tx_19 : (Jvm.Cond.classLink "CoinsAreDovesLaw" (7 : Nat) "CoinsAreDoves") ∈ lw_g := lw_g_of (List.mem_of_getElem? (i := 75) (by decide +kernel)) (by decide +kernel)
theorem tx_20 : (Jvm.Cond.instantiable "CoinsAreDoves" (10 : Nat)) ∈ lw_g := lw_g_of (List.mem_of_getElem? (i := 76) (by decide +kernel)) (by decide +kernel)
theorem tx_27 : (Jvm.Cond.classLink "CoinsAreDoves" (7 : Nat) "CoinsAreDoves$Town") ∈ lw_g := lw_g_of (List.mem_of_getElem? (i := 83) (by decide +kernel)) (by decide +kernel)
theorem tx_28 : (Jvm.Cond.instantiable "CoinsAreDoves$Town" (13 : Nat)) ∈ lw_g := lw_g_of (List.mem_of_getElem? (i := 84) (by decide +kernel)) (by decide +kernel)
theorem tx_33 : (Jvm.Cond.classLink "CoinsAreDoves$Town" (9 : Nat) "CoinsAreDoves$Dove") ∈ lw_g := lw_g_of (List.mem_of_getElem? (i := 89) (by decide +kernel)) (by decide +kernel)
theorem tx_35 : (Jvm.Cond.instantiable "CoinsAreDoves$Dove" (0 : Nat)) ∈ lw_g := lw_g_of (List.mem_of_getElem? (i := 91) (by decide +kernel)) (by decide +kernel)
theorem tx_41 : (Jvm.Cond.classLink "CoinsAreDoves$Town" (12 : Nat) "CoinsAreDoves$Old") ∈ lw_g := lw_g_of (List.mem_of_getElem? (i := 97) (by decide +kernel)) (by decide +kernel)
theorem tx_42 : (Jvm.Cond.instantiable "CoinsAreDoves$Old" (0 : Nat)) ∈ lw_g := lw_g_of (List.mem_of_getElem? (i := 98) (by decide +kernel)) (by decide +kernel)
theorem tx_48 : (Jvm.Cond.classLink "CoinsAreDoves$Town" (15 : Nat) "CoinsAreDoves$Young") ∈ lw_g := lw_g_of (List.mem_of_getElem? (i := 104) (by decide +kernel)) (by decide +kernel)
theorem tx_49 : (Jvm.Cond.instantiable "CoinsAreDoves$Young" (0 : Nat)) ∈ lw_g := lw_g_of (List.mem_of_getElem? (i := 105) (by decide +kernel)) (by decide +kernel)
theorem tx_55 : (Jvm.Cond.classLink "CoinsAreDoves$Town" (18 : Nat) "CoinsAreDoves$Stray") ∈ lw_g := lw_g_of (List.mem_of_getElem? (i := 111) (by decide +kernel)) (by decide +kernel)
theorem tx_56 : (Jvm.Cond.instantiable "CoinsAreDoves$Stray" (0 : Nat)) ∈ lw_g := lw_g_of (List.mem_of_getElem? (i := 112) (by decide +kernel)) (by decide +kernel)
theorem tx_62 : (Jvm.Cond.classLink "CoinsAreDoves$Town" (21 : Nat) "CoinsAreDoves$Breeder") ∈ lw_g := lw_g_of (List.mem_of_getElem? (i := 118) (by decide +kernel)) (by decide +kernel)
theorem tx_63 : (Jvm.Cond.instantiable "CoinsAreDoves$Breeder" (0 : Nat)) ∈ lw_g := lw_g_of (List.mem_of_getElem? (i := 119) (by decide +kernel)) (by decide +kernel)
theorem tx_69 : (Jvm.Cond.classLink "CoinsAreDoves$Town" (24 : Nat) "CoinsAreDoves$Tame") ∈ lw_g := lw_g_of (List.mem_of_getElem? (i := 125) (by decide +kernel)) (by decide +kernel)
theorem tx_70 : (Jvm.Cond.instantiable "CoinsAreDoves$Tame" (0 : Nat)) ∈ lw_g := lw_g_of (List.mem_of_getElem? (i := 126) (by decide +kernel)) (by decide +kernel)
theorem tx_128 : (Jvm.Cond.arrayClass Jvm.ClassFile.FieldType.int) ∈ lw_g := lw_g_of (List.mem_of_getElem? (i := 184) (by decide +kernel)) (by decide +kernel)
theorem tx_129 : (Jvm.Cond.classLink "CoinsAreDoves" (22 : Nat) "CoinsAreDoves$Text") ∈ lw_g := lw_g_of (List.mem_of_getElem? (i := 185) (by decide +kernel)) (by decide +kernel)
theorem tx_130 : (Jvm.Cond.instantiable "CoinsAreDoves$Text" (2 : Nat)) ∈ lw_g := lw_g_of (List.mem_of_getElem? (i := 186) (by decide +kernel)) (by decide +kernel)
theorem tx_735 : (Jvm.Cond.classLink "CoinsAreDovesLaw" (10 : Nat) "CoinsAreDovesModel") ∈ lw_g := lw_g_of (List.mem_of_getElem? (i := 791) (by decide +kernel)) (by decide +kernel)
theorem tx_736 : (Jvm.Cond.instantiable "CoinsAreDovesModel" (12 : Nat)) ∈ lw_g := lw_g_of (List.mem_of_getElem? (i := 792) (by decide +kernel)) (by decide +kernel)

