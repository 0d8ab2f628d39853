/-! the words of the tables that a callee may be given, and those of nest mates -/
def lw_g : List Cond := lw_tbl.filter goodWord
theorem lw_g_in {w : Cond} (h : w ∈ lw_g) : w ∈ lw_tbl := (List.mem_filter.mp h).1
theorem lw_g_of {w : Cond} (h : w ∈ lw_tbl) (hg : goodWord w = true) : w ∈ lw_g := List.mem_filter.mpr ⟨h, hg⟩
def isNest : Cond → Bool
  | .methodLinkNest .. => true
  | _ => false
def lw_n : List Cond := lw_tbl.filter isNest
theorem lw_n_of {w : Cond} (h : w ∈ lw_tbl) (hg : isNest w = true) : w ∈ lw_n := List.mem_filter.mpr ⟨h, hg⟩
theorem nest_warm {w : Cond} (hw : isNest w = true) {s U : State} (hW : s.WarmedH U.vm) (h : va_Nw w s) : va_Nw w U := by
  cases w <;> first | (simp [isNest] at hw; done) | exact va_Nw.warmM hW h
theorem nest_tab {w : Cond} (hw : isNest w = true) : w.onTables = true := by
  cases w <;> first | (simp [isNest] at hw; done) | rfl
/-! worlds: groups of cells -/
abbrev GT : Type := va_G × ClassId × ClassId × (Nat → Nat) × (Nat → Nat)
def tyG (G : GT) : List (ClassId × FieldType) := [(G.2.1, .int), (G.2.2.1, .object RX1)]
def Ad (gs : List va_W) (q : Nat) : Prop := q ∈ (gs.map (List.map Prod.fst)).flatten
def shp (gs : List va_W) : List (List Nat) := gs.map (List.map Prod.fst)
theorem shp_fl (gs : List va_W) : (shp gs).flatten = gs.flatten.map Prod.fst := by
  unfold shp
  rw [← List.map_flatten]
def DG (A : Nat → Prop) (gs : List va_W) : Prop := (shp gs).flatten.Nodup ∧ ∀ q ∈ (shp gs).flatten, A q
theorem DG.va {A : Nat → Prop} {gs : List va_W} (h : DG A gs) : va_D A gs.flatten := by
  obtain ⟨h1, h2⟩ := h
  rw [shp_fl] at h1 h2
  refine ⟨fun i j p q hi hj hpq => ?_, fun k q hk => ?_⟩
  · have a1 : (gs.flatten.map Prod.fst)[i]? = some p.1 := by rw [List.getElem?_map, hi]; rfl
    have a2 : (gs.flatten.map Prod.fst)[j]? = some q.1 := by rw [List.getElem?_map, hj]; rfl
    rw [← hpq] at a2
    have hi' := (List.getElem?_eq_some_iff.mp a1).1
    exact (List.getElem?_inj hi' h1).mp (a1.trans a2.symm)
  · exact h2 _ (List.mem_map.mpr ⟨q, List.mem_of_getElem? hk, rfl⟩)
theorem DG.same {A : Nat → Prop} {gs gs' : List va_W} (h : DG A gs) (e : shp gs' = shp gs) : DG A gs' := by
  unfold DG
  rw [e]
  exact h
/-- the cells hold -/
def PG (D : va_G) (gs : List va_W) (H : Heap) : Prop := va_P D vwCl gs.flatten H
theorem va_P_mem {D : va_G} {cl : List vw_C} {ws : va_W} {H : Heap} : va_P D cl ws H ↔ ∀ q ∈ ws, va_at D cl q H := by
  refine ⟨fun h q hq => ?_, fun h k q hk => h q (List.mem_of_getElem? hk)⟩
  obtain ⟨k, hk⟩ := List.getElem?_of_mem hq
  exact h k q hk
theorem PG.mem {D : va_G} {gs : List va_W} {H : Heap} : PG D gs H ↔ ∀ g ∈ gs, ∀ q ∈ g, va_at D vwCl q H := by
  unfold PG
  rw [va_P_mem]
  constructor
  · intro h g hg q hq
    exact h q (List.mem_flatten.mpr ⟨g, hg, hq⟩)
  · intro h q hq
    obtain ⟨g, hg, hq⟩ := List.mem_flatten.mp hq
    exact h g hg q hq
/-- the places of a group's cells among all -/
def offG : List va_W → Nat → Nat
  | [], _ => 0
  | _ :: _, 0 => 0
  | g :: gs, i + 1 => g.length + offG gs i
theorem off_get : ∀ {gs : List va_W} {i k : Nat} {g : va_W} {q : Nat × va_E}, gs[i]? = some g → g[k]? = some q → gs.flatten[offG gs i + k]? = some q
  | [], i, k, g, q, h, _ => by simp at h
  | g0 :: gs, 0, k, g, q, h, h2 => by
    rw [List.getElem?_cons_zero] at h
    cases h
    have hl := (List.getElem?_eq_some_iff.mp h2).1
    show (g0 ++ gs.flatten)[0 + k]? = some q
    rw [Nat.zero_add, List.getElem?_append_left hl]
    exact h2
  | g0 :: gs, i + 1, k, g, q, h, h2 => by
    rw [List.getElem?_cons_succ] at h
    have ih := off_get h h2
    show (g0 ++ gs.flatten)[g0.length + offG gs i + k]? = some q
    rw [List.getElem?_append_right (by omega)]
    rw [show g0.length + offG gs i + k - g0.length = offG gs i + k by omega]
    exact ih
theorem off_set : ∀ {gs : List va_W} {i k : Nat} {g : va_W} {x : Nat × va_E}, gs[i]? = some g → k < g.length → gs.flatten.set (offG gs i + k) x = (gs.set i (g.set k x)).flatten
  | [], i, k, g, x, h, _ => by simp at h
  | g0 :: gs, 0, k, g, x, h, hk => by
    rw [List.getElem?_cons_zero] at h
    cases h
    show (g0 ++ gs.flatten).set (0 + k) x = (g0.set k x) ++ gs.flatten
    rw [Nat.zero_add, List.set_append_left _ _ hk]
  | g0 :: gs, i + 1, k, g, x, h, hk => by
    rw [List.getElem?_cons_succ] at h
    have ih := off_set (x := x) h hk
    show (g0 ++ gs.flatten).set (g0.length + offG gs i + k) x = g0 ++ (gs.set i (g.set k x)).flatten
    rw [List.set_append_right _ _ (by omega), ← ih]
    rw [show g0.length + offG gs i + k - g0.length = offG gs i + k by omega]
theorem shp_set {gs : List va_W} {i : Nat} {g g' : va_W} (h : gs[i]? = some g) (e : g'.map Prod.fst = g.map Prod.fst) : shp (gs.set i g') = shp gs := by
  unfold shp
  rw [List.map_set, e]
  apply List.ext_getElem?
  intro j
  by_cases hj : i = j
  · subst hj
    rw [List.getElem?_set_self', List.getElem?_map, h]
    rfl
  · rw [List.getElem?_set_ne hj]
/-- some groups put in their places -/
def ups : List va_W → List Nat → List va_W → List va_W
  | gs, i :: is, g :: gl => ups (gs.set i g) is gl
  | gs, _, _ => gs
theorem ups_mem : ∀ {is : List Nat} {gl gs : List va_W} {g : va_W}, is.length = gl.length → g ∈ ups gs is gl → g ∈ gl ∨ ∃ j, gs[j]? = some g ∧ j ∉ is
  | [], [], gs, g, _, h => by
    obtain ⟨j, hj⟩ := List.getElem?_of_mem h
    exact Or.inr ⟨j, hj, List.not_mem_nil⟩
  | [], _ :: _, _, _, hl, _ => by cases hl
  | _ :: _, [], _, _, hl, _ => by cases hl
  | i :: is, g0 :: gl, gs, g, hl, h => by
    rcases ups_mem (is := is) (gl := gl) (by simpa using hl) h with h1 | ⟨j, h1, h2⟩
    · exact Or.inl (List.mem_cons_of_mem _ h1)
    · by_cases hj : i = j
      · subst hj
        rw [List.getElem?_set_self'] at h1
        cases hq : gs[i]? with
        | none => rw [hq] at h1; cases h1
        | some z =>
          rw [hq] at h1
          cases h1
          exact Or.inl List.mem_cons_self
      · rw [List.getElem?_set_ne hj] at h1
        refine Or.inr ⟨j, h1, fun hm => ?_⟩
        rcases List.mem_cons.mp hm with e | e
        · exact hj e.symm
        · exact h2 e
theorem ups_shp : ∀ {is : List Nat} {gc gl gs : List va_W}, is.map (fun i => gs[i]?) = gc.map some → is.Nodup → shp gl = shp gc → shp (ups gs is gl) = shp gs
  | [], gc, gl, gs, _, _, _ => by cases gl <;> rfl
  | i :: is, [], gl, gs, h, _, _ => by cases h
  | i :: is, g0 :: gc, [], gs, _, _, e => by cases e
  | i :: is, g0 :: gc, g1 :: gl, gs, h, hn, e => by
    have h1 : gs[i]? = some g0 := (List.cons.inj h).1
    have h2 : is.map (fun i => gs[i]?) = gc.map some := (List.cons.inj h).2
    have e1 : g1.map Prod.fst = g0.map Prod.fst := (List.cons.inj e).1
    have e2 : shp gl = shp gc := (List.cons.inj e).2
    have hn1 := List.nodup_cons.mp hn
    have h3 : is.map (fun j => (gs.set i g1)[j]?) = gc.map some := by
      rw [← h2]
      apply List.map_congr_left
      intro j hj
      exact List.getElem?_set_ne (fun q => hn1.1 (by rw [q]; exact hj))
    have := ups_shp (is := is) h3 hn1.2 e2
    show shp (ups (gs.set i g1) is gl) = shp gs
    rw [this]
    exact shp_set h1 e1
/-- addresses of two groups are apart -/
theorem DG.apart {A : Nat → Prop} {gs : List va_W} (h : DG A gs) {i j : Nat} {g1 g2 : va_W} (h1 : gs[i]? = some g1) (h2 : gs[j]? = some g2) (hij : i ≠ j) {a : Nat} (ha : a ∈ g1.map Prod.fst) (hb : a ∈ g2.map Prod.fst) : False := by
  have hn := (List.pairwise_flatten.mp h.1).2
  have e1 : (shp gs)[i]? = some (g1.map Prod.fst) := by unfold shp; rw [List.getElem?_map, h1]; rfl
  have e2 : (shp gs)[j]? = some (g2.map Prod.fst) := by unfold shp; rw [List.getElem?_map, h2]; rfl
  obtain ⟨hi, e1⟩ := List.getElem?_eq_some_iff.mp e1
  obtain ⟨hj, e2⟩ := List.getElem?_eq_some_iff.mp e2
  rcases Nat.lt_or_ge i j with q | q
  · exact List.pairwise_iff_getElem.mp hn i j hi hj q a (by rw [e1]; exact ha) a (by rw [e2]; exact hb) rfl
  · exact List.pairwise_iff_getElem.mp hn j i hj hi (by omega) a (by rw [e2]; exact hb) a (by rw [e1]; exact ha) rfl
/-- facts that nobody writes: the literals, two statics, the words of nest mates -/
def lenJ : List Nat := [3, 4, 2, 3, 0, 6]
def bytJ : List (List Int32) := [[57, 57, 59], [107, 57, 57, 59], [57, 59], [57, 63, 59], [], [100, 111, 121, 115, 98, 116]]
def litJ : List (Nat × String) := [(54, "99;"), (56, "k99;"), (58, "9;"), (60, "9?;"), (62, ""), (93, "doysbt")]
def SF (G : GT) (A : Nat → Prop) (U : State) (H : Heap) : Prop :=
  vk_S 6 lenJ bytJ G.2.2.2.1 G.2.2.2.2 A U H ∧ (∀ (i : Nat) (q : Nat × String), litJ[i]? = some q → vk_R RX5 q.1 q.2 (G.2.2.2.1 i) U) ∧ va_Z "java/lang/String" "COMPACT_STRINGS" "Z" (.int 1) A U H ∧ va_Zq "jdk/internal/util/Preconditions" "SIOOBE_FORMATTER" "Ljava/util/function/BiFunction;" A U H ∧ (∀ w ∈ lw_n, va_Nw w U) ∧ va_AO RX1 U
theorem SF.kept {G : GT} {A : Nat → Prop} {U : State} {H H1 : Heap} (h : SF G A U H) (hq : ∀ a : Nat, a < H.size → ¬ A a → H1[a]? = H[a]?) : SF G A U H1 :=
  ⟨h.1.kept hq, h.2.1, h.2.2.1.kept hq, h.2.2.2.1.kept hq, h.2.2.2.2⟩
theorem SF.narrow {G : GT} {A B : Nat → Prop} {U : State} {H : Heap} (h : SF G A U H) (hAB : ∀ q, B q → A q) : SF G B U H :=
  ⟨h.1.narrow hAB, h.2.1, h.2.2.1.narrow hAB, h.2.2.2.1.narrow hAB, h.2.2.2.2⟩
theorem SF.warm {G : GT} {A : Nat → Prop} {s U : State} {H : Heap} (hW : s.WarmedH U.vm) (h : SF G A s H) : SF G A U H :=
  ⟨vk_S.moved hW.alike h.1, fun i q hi => vk_R.warm hW (h.2.1 i q hi), va_Z.moved hW.alike h.2.2.1, va_Zq.moved hW.alike h.2.2.2.1, fun w hw => nest_warm (List.mem_filter.mp hw).2 hW (h.2.2.2.2.1 w hw), va_AO.moved hW.alike h.2.2.2.2.2⟩
theorem SF.calling {G : GT} {A : Nat → Prop} {U : State} {H : Heap} (g : JFrame) (mk : MethodId) (a : Array Value) (h : SF G A U H) : SF G A (U.calling g mk a) H :=
  ⟨vk_S.moved (u := U) (U := U.calling g mk a) (Vm.Alike.refl U.vm) h.1, fun i q hi => vk_R.same (u := U) (U := U.calling g mk a) rfl (h.2.1 i q hi), va_Z.moved (u := U) (U := U.calling g mk a) (Vm.Alike.refl U.vm) h.2.2.1, va_Zq.moved (u := U) (U := U.calling g mk a) (Vm.Alike.refl U.vm) h.2.2.2.1, fun w hw => va_Nw.same (nest_tab (List.mem_filter.mp hw).2) (u := U) (U := U.calling g mk a) rfl (h.2.2.2.2.1 w hw), va_AO.moved (u := U) (U := U.calling g mk a) (Vm.Alike.refl U.vm) h.2.2.2.2.2⟩
/-! a method's contract: from the groups gs, called with av, it answers v and leaves gs' as Post says -/
def Pcn (G : GT) (av : List Value) (gs : List va_W) : Array Value → State → Prop := fun a U => a = av.toArray ∧ PG G.1 gs U.heap ∧ (shp gs).flatten.Nodup ∧ va_K G.1 vwCl (tyG G) U ∧ SF G (Ad gs) U U.heap
def Qcn (G : GT) (gs : List va_W) (Post : Option Value → List va_W → Prop) : Array Value → State → Outcome → State → Prop := fun _ s o t => ∃ (v : Option Value) (gs' : List va_W), o = .returned v ∧ Post v gs' ∧ shp gs' = shp gs ∧ PG G.1 gs' t.heap ∧ va_F (Ad gs) s t
abbrev wU (y : MethodName) (bytes : ByteArray) (maxL : Nat) (ret : Option FieldType) : List Cond := .code y bytes maxL ret :: lw_g
def Cn (l : Launch) (y : MethodName) (bytes : ByteArray) (maxL : Nat) (ret : Option FieldType) (rm : Room) (G : GT) (av : List Value) (gs : List va_W) (Post : Option Value → List va_W → Prop) : Prop :=
  Met l y (wU y bytes maxL ret) rm (Pcn G av gs) (Qcn G gs Post) 0 0 (Ad gs)
/-- just so: the answer v, the groups gs -/
def jst (v : Option Value) (gs : List va_W) : Option Value → List va_W → Prop := fun a b => a = v ∧ b = gs
theorem jst_r (v : Option Value) (gs : List va_W) : jst v gs v gs := ⟨rfl, rfl⟩
/-! the judgement at an instruction -/
abbrev KT : Type := Program × Launch × Env × Room × State × MethodId × Array Value × List Frame × Method × Code × Nat × Nat × (State → Prop) × (Nat → Prop) × Nat
abbrev kp (K : KT) : Program := K.1
abbrev kl (K : KT) : Launch := K.2.1
abbrev ke (K : KT) : Env := K.2.2.1
abbrev kR (K : KT) : Room := K.2.2.2.1
abbrev ks (K : KT) : State := K.2.2.2.2.1
abbrev km (K : KT) : MethodId := K.2.2.2.2.2.1
abbrev ka (K : KT) : Array Value := K.2.2.2.2.2.2.1
abbrev kb (K : KT) : List Frame := K.2.2.2.2.2.2.2.1
abbrev kme (K : KT) : Method := K.2.2.2.2.2.2.2.2.1
abbrev kc (K : KT) : Code := K.2.2.2.2.2.2.2.2.2.1
abbrev kn (K : KT) : Nat := K.2.2.2.2.2.2.2.2.2.2.1
abbrev kt (K : KT) : Nat := K.2.2.2.2.2.2.2.2.2.2.2.1
abbrev kQ (K : KT) : State → Prop := K.2.2.2.2.2.2.2.2.2.2.2.2.1
abbrev kA (K : KT) : Nat → Prop := K.2.2.2.2.2.2.2.2.2.2.2.2.2.1
abbrev kL (K : KT) : Nat := K.2.2.2.2.2.2.2.2.2.2.2.2.2.2
/-- the locals, all of one slot -/
def LV (ls : Array Slot) (nL : Nat) (vs : List (Option Value)) : Prop := ls.size = nL ∧ lv_wf ls ∧ vs.length = nL ∧ ∀ (i : Nat) (v : Value), vs[i]? = some (some v) → v.category = 1 ∧ ls[i]? = some (.val v)
def Wc (K : KT) (G : GT) (pc : Nat) (vs : List (Option Value)) (st : List Value) (gs : List va_W) : Prop :=
  ∀ (H : Heap) (locs : List Loc) (ls : Array Slot), PG G.1 gs H → DG (kA K) gs → va_S (kA K) (ks K).heap H locs → LV ls (kL K) vs → W (kp K) (kl K) (ke K) (kR K) (ks K) (km K) (ka K) (kb K) (kme K) (kc K) H locs (kn K) (kt K) (kQ K) (F0 (km K) pc ls st)
/-- what holds of the method that runs -/
def Cf (K : KT) (l : Launch) (G : GT) (cc : ByteArray) (own : String) (ret : Option FieldType) (rm : Room) : Prop :=
  (kp K).tables.exec = Jvm.exec ∧ (kc K).code = cc ∧ (kme K).sig.returnType = ret ∧ (kme K).locks = false ∧ (kc K).maxLocals = kL K ∧ (ks K).vm.findClass own = some (km K).cls ∧ (∀ w ∈ lw_g, w.before (ka K) (ks K) = true) ∧ va_K G.1 vwCl (tyG G) (ks K) ∧ SF G (kA K) (ks K) (ks K).heap ∧ kl K = l ∧ kR K = rm ∧ kn K ≤ rm.cells ∧ kt K ≤ rm.slots
/-- what is due at its end -/
def Rq (K : KT) (G : GT) (gs0 : List va_W) (Post : Option Value → List va_W → Prop) : Prop := kQ K = MQ (kb K) (Qcn G gs0 Post) (ka K) (ks K) 0 0 (Ad gs0) ∧ kA K = Ad gs0 ∧ kn K = 0 ∧ kt K = 0
section
variable {K : KT} {l : Launch} {G : GT} {cc : ByteArray} {own : String} {ret : Option FieldType} {rm : Room}
theorem Cf.x (C : Cf K l G cc own ret rm) : (kp K).tables.exec = Jvm.exec := C.1
theorem Cf.b (C : Cf K l G cc own ret rm) : (kc K).code = cc := C.2.1
theorem Cf.r (C : Cf K l G cc own ret rm) : (kme K).sig.returnType = ret := C.2.2.1
theorem Cf.lk (C : Cf K l G cc own ret rm) : (kme K).locks = false := C.2.2.2.1
theorem Cf.ml (C : Cf K l G cc own ret rm) : (kc K).maxLocals = kL K := C.2.2.2.2.1
theorem Cf.o (C : Cf K l G cc own ret rm) : (ks K).vm.findClass own = some (km K).cls := C.2.2.2.2.2.1
theorem Cf.t (C : Cf K l G cc own ret rm) : ∀ w ∈ lw_g, w.before (ka K) (ks K) = true := C.2.2.2.2.2.2.1
theorem Cf.k (C : Cf K l G cc own ret rm) : va_K G.1 vwCl (tyG G) (ks K) := C.2.2.2.2.2.2.2.1
theorem Cf.z (C : Cf K l G cc own ret rm) : SF G (kA K) (ks K) (ks K).heap := C.2.2.2.2.2.2.2.2.1
theorem Cf.la (C : Cf K l G cc own ret rm) : kl K = l := C.2.2.2.2.2.2.2.2.2.1
theorem Cf.R (C : Cf K l G cc own ret rm) : kR K = rm := C.2.2.2.2.2.2.2.2.2.2.1
theorem Cf.n (C : Cf K l G cc own ret rm) : kn K ≤ rm.cells ∧ kt K ≤ rm.slots := C.2.2.2.2.2.2.2.2.2.2.2
end
