/-! rows of Wc: an instruction each -/
section
variable {K : KT} {l : Launch} {G : GT} {cc : ByteArray} {own : String} {ret : Option FieldType} {rm : Room} {pc : Nat} {vs : List (Option Value)} {st : List Value} {gs : List va_W}
theorem Wc.eq {pc' : Nat} {vs' : List (Option Value)} {st' : List Value} {gs' : List va_W} (k : Wc K G pc' vs' st' gs') (h1 : pc = pc') (h2 : vs = vs') (h3 : st = st') (h4 : gs = gs') : Wc K G pc vs st gs := by
  subst h1 h2 h3 h4
  exact k
/-- fewer locals -/
theorem Wc.less {vs' : List (Option Value)} (k : Wc K G pc vs' st gs) (hl : vs'.length = vs.length) (h : ∀ (i : Nat) (v : Value), vs'[i]? = some (some v) → vs[i]? = some (some v)) : Wc K G pc vs st gs := by
  intro H locs ls hP hD hS hL
  exact k H locs ls hP hD hS ⟨hL.1, hL.2.1, hl.trans hL.2.2.1, fun i v hi => hL.2.2.2 i v (h i v hi)⟩
def lsub : List (Option Value) → List (Option Value) → Prop
  | [], [] => True
  | none :: a, _ :: b => lsub a b
  | some v :: a, some w :: b => v = w ∧ lsub a b
  | _, _ => False
theorem lsub_0 : lsub [] [] := trivial
theorem lsub_s {v w : Value} {a b : List (Option Value)} (h : v = w) (k : lsub a b) : lsub (some v :: a) (some w :: b) := ⟨h, k⟩
theorem lsub_n {x : Option Value} {a b : List (Option Value)} (k : lsub a b) : lsub (none :: a) (x :: b) := by
  cases x <;> exact k
theorem lsub_len : ∀ {a b : List (Option Value)}, lsub a b → a.length = b.length
  | [], [], _ => rfl
  | [], _ :: _, h => h.elim
  | none :: _, [], h => h.elim
  | some _ :: _, [], h => h.elim
  | none :: a, _ :: b, h => congrArg (· + 1) (lsub_len (a := a) (b := b) h)
  | some _ :: _, none :: _, h => h.elim
  | some _ :: a, some _ :: b, h => congrArg (· + 1) (lsub_len (a := a) (b := b) h.2)
theorem lsub_get : ∀ {a b : List (Option Value)} {i : Nat} {v : Value}, lsub a b → a[i]? = some (some v) → b[i]? = some (some v)
  | [], _, i, v, _, h => by simp at h
  | none :: _, [], _, _, h, _ => h.elim
  | some _ :: _, [], _, _, h, _ => h.elim
  | none :: a, x :: b, i, v, h, h2 => by
    cases i with
    | zero => rw [List.getElem?_cons_zero] at h2; cases h2
    | succ i =>
      rw [List.getElem?_cons_succ] at h2 ⊢
      exact lsub_get (a := a) (b := b) h h2
  | some _ :: _, none :: _, _, _, h, _ => h.elim
  | some w :: a, some x :: b, i, v, h, h2 => by
    cases i with
    | zero =>
      rw [List.getElem?_cons_zero] at h2 ⊢
      rw [← h.1]
      exact h2
    | succ i =>
      rw [List.getElem?_cons_succ] at h2 ⊢
      exact lsub_get (a := a) (b := b) h.2 h2
/-- fewer locals, the same world -/
theorem Wc.to {pc' : Nat} {vs' : List (Option Value)} {gs' : List va_W} (k : Wc K G pc' vs' st gs') (h1 : pc = pc') (hl : lsub vs' vs) (hg : gs = gs') : Wc K G pc vs st gs := by
  subst h1 hg
  exact Wc.less k (lsub_len hl) (fun i v h => lsub_get hl h)
theorem r_iconst (C : Cf K l G cc own ret rm) {n : Int} (hd : decode cc pc = .ok (.iconst n, 1)) (k : Wc K G (pc + 1) vs (.int (iI n) :: st) gs) : Wc K G pc vs (st) gs := by
  intro H locs ls hP hD hS hl
  exact lv_iconst C.x C.b hd rfl (k H locs ls hP hD hS hl)
theorem r_bipush (C : Cf K l G cc own ret rm) {n : Int} (hd : decode cc pc = .ok (.bipush n, 2)) (hv : (Int8.ofInt n).toInt32 = iI n) (k : Wc K G (pc + 2) vs (.int (iI n) :: st) gs) : Wc K G pc vs (st) gs := by
  intro H locs ls hP hD hS hl
  exact lv_bipush C.x C.b hd hv (k H locs ls hP hD hS hl)
theorem r_sipush (C : Cf K l G cc own ret rm) {n : Int} (hd : decode cc pc = .ok (.sipush n, 3)) (hv : (Int16.ofInt n).toInt32 = iI n) (k : Wc K G (pc + 3) vs (.int (iI n) :: st) gs) : Wc K G pc vs (st) gs := by
  intro H locs ls hP hD hS hl
  exact lv_sipush C.x C.b hd hv (k H locs ls hP hD hS hl)
theorem r_ldc (C : Cf K l G cc own ret rm) {idx : Nat} {n : Int} {v : Int32} (hd : decode cc pc = .ok (.ldc idx, 2)) (hw : Cond.constant own idx v ∈ lw_g) (hv : v = iI n) (k : Wc K G (pc + 2) vs (.int (iI n) :: st) gs) : Wc K G pc vs (st) gs := by
  intro H locs ls hP hD hS hl
  exact lv_ldc C.x C.b C.o (v := iI n) (by rw [← hv]; exact C.t _ hw) hd (k H locs ls hP hD hS hl)
theorem r_iadd (C : Cf K l G cc own ret rm) {a b : Int} (hd : decode cc pc = .ok (.iadd, 1)) (k : Wc K G (pc + 1) vs (.int (iI (a + b)) :: st) gs) : Wc K G pc vs (.int (iI b) :: .int (iI a) :: st) gs := by
  intro H locs ls hP hD hS hl
  exact lv_iadd C.x C.b hd (by rw [iI_add]; exact k H locs ls hP hD hS hl)
theorem r_isub (C : Cf K l G cc own ret rm) {a b : Int} (hd : decode cc pc = .ok (.isub, 1)) (k : Wc K G (pc + 1) vs (.int (iI (a - b)) :: st) gs) : Wc K G pc vs (.int (iI b) :: .int (iI a) :: st) gs := by
  intro H locs ls hP hD hS hl
  exact lv_isub C.x C.b hd (by rw [iI_sub]; exact k H locs ls hP hD hS hl)
theorem r_imul (C : Cf K l G cc own ret rm) {a b : Int} (hd : decode cc pc = .ok (.imul, 1)) (k : Wc K G (pc + 1) vs (.int (iI (a * b)) :: st) gs) : Wc K G pc vs (.int (iI b) :: .int (iI a) :: st) gs := by
  intro H locs ls hP hD hS hl
  exact lv_imul C.x C.b hd (by rw [iI_mul]; exact k H locs ls hP hD hS hl)
theorem r_ineg (C : Cf K l G cc own ret rm) {a : Int} (hd : decode cc pc = .ok (.ineg, 1)) (k : Wc K G (pc + 1) vs (.int (iI (-a)) :: st) gs) : Wc K G pc vs (.int (iI a) :: st) gs := by
  intro H locs ls hP hD hS hl
  exact lv_ineg C.x C.b hd (by rw [iI_neg]; exact k H locs ls hP hD hS hl)
theorem r_iand (C : Cf K l G cc own ret rm) {a b : Int} (hd : decode cc pc = .ok (.iand, 1)) (k : Wc K G (pc + 1) vs (.int (iI (zand a b)) :: st) gs) : Wc K G pc vs (.int (iI b) :: .int (iI a) :: st) gs := by
  intro H locs ls hP hD hS hl
  exact lv_iand C.x C.b hd (by rw [iI_and]; exact k H locs ls hP hD hS hl)
theorem r_ior (C : Cf K l G cc own ret rm) {a b : Int} (hd : decode cc pc = .ok (.ior, 1)) (k : Wc K G (pc + 1) vs (.int (iI (zor a b)) :: st) gs) : Wc K G pc vs (.int (iI b) :: .int (iI a) :: st) gs := by
  intro H locs ls hP hD hS hl
  exact lv_ior C.x C.b hd (by rw [iI_or]; exact k H locs ls hP hD hS hl)
theorem r_ixor (C : Cf K l G cc own ret rm) {a b : Int} (hd : decode cc pc = .ok (.ixor, 1)) (k : Wc K G (pc + 1) vs (.int (iI (zxor a b)) :: st) gs) : Wc K G pc vs (.int (iI b) :: .int (iI a) :: st) gs := by
  intro H locs ls hP hD hS hl
  exact lv_ixor C.x C.b hd (by rw [iI_xor]; exact k H locs ls hP hD hS hl)
theorem r_ishl (C : Cf K l G cc own ret rm) {a b : Int} (hd : decode cc pc = .ok (.ishl, 1)) (hb : 0 ≤ b ∧ b < 32) (k : Wc K G (pc + 1) vs (.int (iI (a * zp2 b)) :: st) gs) : Wc K G pc vs (.int (iI b) :: .int (iI a) :: st) gs := by
  intro H locs ls hP hD hS hl
  exact lv_ishl C.x C.b hd (by rw [iI_shl hb]; exact k H locs ls hP hD hS hl)
theorem r_ishr (C : Cf K l G cc own ret rm) {a b : Int} (hd : decode cc pc = .ok (.ishr, 1)) (ha : -2147483648 ≤ a ∧ a < 2147483648) (hb : 0 ≤ b ∧ b < 32) (k : Wc K G (pc + 1) vs (.int (iI (a / zp2 b)) :: st) gs) : Wc K G pc vs (.int (iI b) :: .int (iI a) :: st) gs := by
  intro H locs ls hP hD hS hl
  exact lv_ishr C.x C.b hd (by rw [iI_shr ha hb]; exact k H locs ls hP hD hS hl)
theorem r_idiv (C : Cf K l G cc own ret rm) {a b : Int} (hd : decode cc pc = .ok (.idiv, 1)) (ha : 0 ≤ a ∧ a < 2147483648) (hb : 0 < b ∧ b < 2147483648) (k : Wc K G (pc + 1) vs (.int (iI (a / b)) :: st) gs) : Wc K G pc vs (.int (iI b) :: .int (iI a) :: st) gs := by
  intro H locs ls hP hD hS hl
  exact lv_idiv C.x C.b hd (fun e => by have h1 := congrArg Int32.toInt e; rw [iI_toInt (by omega)] at h1; have h2 : (0 : Int32).toInt = 0 := rfl; omega) (by rw [iI_div ha hb]; exact k H locs ls hP hD hS hl)
theorem r_irem (C : Cf K l G cc own ret rm) {a b : Int} (hd : decode cc pc = .ok (.irem, 1)) (ha : 0 ≤ a ∧ a < 2147483648) (hb : 0 < b ∧ b < 2147483648) (k : Wc K G (pc + 1) vs (.int (iI (a % b)) :: st) gs) : Wc K G pc vs (.int (iI b) :: .int (iI a) :: st) gs := by
  intro H locs ls hP hD hS hl
  exact lv_irem C.x C.b hd (fun e => by have h1 := congrArg Int32.toInt e; rw [iI_toInt (by omega)] at h1; have h2 : (0 : Int32).toInt = 0 := rfl; omega) (by rw [iI_rem ha hb]; exact k H locs ls hP hD hS hl)
theorem r_i2c (C : Cf K l G cc own ret rm) {a : Int} (hd : decode cc pc = .ok (.i2c, 1)) (ha : 0 ≤ a ∧ a < 65536) (k : Wc K G (pc + 1) vs (.int (iI a) :: st) gs) : Wc K G pc vs (.int (iI a) :: st) gs := by
  intro H locs ls hP hD hS hl
  exact lv_i2c C.x C.b hd (by rw [show iI a = nI a.toNat by rw [← iI_nat]; congr 1; omega]; exact (pk_char (nI a.toNat)).trans (by rw [pk_tn (by omega), Nat.mod_eq_of_lt (by omega)])) (k H locs ls hP hD hS hl)
theorem r_dup (C : Cf K l G cc own ret rm) {va : Value} (hd : decode cc pc = .ok (.dup, 1)) (hva : va.category = 1) (k : Wc K G (pc + 1) vs (va :: va :: st) gs) : Wc K G pc vs (va :: st) gs := by
  intro H locs ls hP hD hS hl
  exact lv_dup C.x C.b hd hva (k H locs ls hP hD hS hl)
theorem r_dup2 (C : Cf K l G cc own ret rm) {va vb : Value} (hd : decode cc pc = .ok (.dup2, 1)) (hva : va.category = 1) (hvb : vb.category = 1) (k : Wc K G (pc + 1) vs (va :: vb :: va :: vb :: st) gs) : Wc K G pc vs (va :: vb :: st) gs := by
  intro H locs ls hP hD hS hl
  exact lv_dup2_11 C.x C.b hd hva hvb (k H locs ls hP hD hS hl)
theorem r_pop (C : Cf K l G cc own ret rm) {va : Value} (hd : decode cc pc = .ok (.pop, 1)) (hva : va.category = 1) (k : Wc K G (pc + 1) vs (st) gs) : Wc K G pc vs (va :: st) gs := by
  intro H locs ls hP hD hS hl
  exact lv_pop C.x C.b hd hva (k H locs ls hP hD hS hl)
theorem r_iload_n (C : Cf K l G cc own ret rm) {j : Fin 4} (i : Nat) {x : Int32} (hd : decode cc pc = .ok (.iload_n j, 1)) (hj : (j : Nat) = i) (hv : vs[i]? = some (some (.int x))) (k : Wc K G (pc + 1) vs (.int x :: st) gs) : Wc K G pc vs (st) gs := by
  intro H locs ls hP hD hS hl
  exact lv_iload_n C.x C.b hd hj (hl.2.2.2 i _ hv).2 (k H locs ls hP hD hS hl)
theorem r_iload (C : Cf K l G cc own ret rm) {i : Nat} {x : Int32} (hd : decode cc pc = .ok (.iload i, 2)) (hv : vs[i]? = some (some (.int x))) (k : Wc K G (pc + 2) vs (.int x :: st) gs) : Wc K G pc vs (st) gs := by
  intro H locs ls hP hD hS hl
  exact lv_iload C.x C.b hd (hl.2.2.2 i _ hv).2 (k H locs ls hP hD hS hl)
theorem r_aload_n (C : Cf K l G cc own ret rm) {j : Fin 4} (i : Nat) {x : Nat} (hd : decode cc pc = .ok (.aload_n j, 1)) (hj : (j : Nat) = i) (hv : vs[i]? = some (some (.ref x))) (k : Wc K G (pc + 1) vs (.ref x :: st) gs) : Wc K G pc vs (st) gs := by
  intro H locs ls hP hD hS hl
  exact lv_aload_n C.x C.b hd hj (hl.2.2.2 i _ hv).2 (k H locs ls hP hD hS hl)
theorem r_aload (C : Cf K l G cc own ret rm) {i : Nat} {x : Nat} (hd : decode cc pc = .ok (.aload i, 2)) (hv : vs[i]? = some (some (.ref x))) (k : Wc K G (pc + 2) vs (.ref x :: st) gs) : Wc K G pc vs (st) gs := by
  intro H locs ls hP hD hS hl
  exact lv_aload C.x C.b hd (hl.2.2.2 i _ hv).2 (k H locs ls hP hD hS hl)
/-- the listed locals as the kit has them -/
def lp : Nat → List (Option Value) → List (Nat × Value)
  | _, [] => []
  | i, none :: r => lp (i + 1) r
  | i, some v :: r => (i, v) :: lp (i + 1) r
theorem lp_mem : ∀ {vs : List (Option Value)} {i : Nat} {q : Nat × Value}, q ∈ lp i vs ↔ i ≤ q.1 ∧ vs[q.1 - i]? = some (some q.2)
  | [], i, q => by simp [lp]
  | none :: r, i, q => by
    show q ∈ lp (i + 1) r ↔ _
    rw [lp_mem]
    constructor
    · rintro ⟨h1, h2⟩
      refine ⟨by omega, ?_⟩
      rw [show q.1 - i = (q.1 - (i + 1)) + 1 by omega, List.getElem?_cons_succ]
      exact h2
    · rintro ⟨h1, h2⟩
      by_cases e : q.1 = i
      · rw [e, Nat.sub_self, List.getElem?_cons_zero] at h2
        cases h2
      · rw [show q.1 - i = (q.1 - (i + 1)) + 1 by omega, List.getElem?_cons_succ] at h2
        exact ⟨by omega, h2⟩
  | some v :: r, i, q => by
    show q ∈ (i, v) :: lp (i + 1) r ↔ _
    rw [List.mem_cons, lp_mem]
    constructor
    · rintro (rfl | ⟨h1, h2⟩)
      · refine ⟨Nat.le_refl _, ?_⟩
        show (some v :: r)[i - i]? = _
        rw [Nat.sub_self, List.getElem?_cons_zero]
      · refine ⟨by omega, ?_⟩
        rw [show q.1 - i = (q.1 - (i + 1)) + 1 by omega, List.getElem?_cons_succ]
        exact h2
    · rintro ⟨h1, h2⟩
      by_cases e : q.1 = i
      · rw [e, Nat.sub_self, List.getElem?_cons_zero] at h2
        left
        have := Option.some.inj (Option.some.inj h2)
        exact Prod.ext e this.symm
      · rw [show q.1 - i = (q.1 - (i + 1)) + 1 by omega, List.getElem?_cons_succ] at h2
        exact Or.inr ⟨by omega, h2⟩
theorem LV.has {ls : Array Slot} {nL : Nat} (h : LV ls nL vs) : lv_has ls nL (lp 0 vs) :=
  ⟨h.1, h.2.1, fun q hq => (h.2.2.2 q.1 q.2 (by have := (lp_mem.mp hq).2; rw [Nat.sub_zero] at this; exact this)).2⟩
theorem LV.put {ls ls' : Array Slot} {nL i : Nat} {v : Value} (h : LV ls nL vs) (hv : v.category = 1) (h' : lv_has ls' nL ((i, v) :: (lp 0 vs).filter (fun q => !(q.1 == i) && !(q.1 + 1 == i && q.2.category == 2)))) : LV ls' nL (vs.set i (some v)) := by
  obtain ⟨h1, h2, h3⟩ := h'
  refine ⟨h1, h2, by rw [List.length_set]; exact h.2.2.1, fun j w hj => ?_⟩
  by_cases e : i = j
  · subst e
    rw [List.getElem?_set_self'] at hj
    cases hq : vs[i]? with
    | none => rw [hq] at hj; cases hj
    | some z =>
      rw [hq] at hj
      have e2 : v = w := Option.some.inj (Option.some.inj hj)
      subst e2
      exact ⟨hv, h3 (i, v) List.mem_cons_self⟩
  · rw [List.getElem?_set_ne e] at hj
    have hc := (h.2.2.2 j w hj).1
    refine ⟨hc, h3 (j, w) (List.mem_cons_of_mem _ (List.mem_filter.mpr ⟨lp_mem.mpr ⟨Nat.zero_le _, by rw [Nat.sub_zero]; exact hj⟩, ?_⟩))⟩
    simp [Ne.symm e, hc]
theorem r_istore_n (C : Cf K l G cc own ret rm) {j : Fin 4} (i : Nat) {x : Int32} (hd : decode cc pc = .ok (.istore_n j, 1)) (hj : (j : Nat) = i) (hi : i < vs.length) (k : Wc K G (pc + 1) (vs.set i (some (.int x))) st gs) : Wc K G pc vs (.int x :: st) gs := by
  intro H locs ls hP hD hS hl
  exact lv_istore_n C.x C.b hd hj hl.has (by rw [← hl.2.2.1]; exact hi) rfl (fun ls' h' => k H locs ls' hP hD hS (hl.put rfl h'))
theorem r_istore (C : Cf K l G cc own ret rm) {i : Nat} {x : Int32} (hd : decode cc pc = .ok (.istore i, 2)) (hi : i < vs.length) (k : Wc K G (pc + 2) (vs.set i (some (.int x))) st gs) : Wc K G pc vs (.int x :: st) gs := by
  intro H locs ls hP hD hS hl
  exact lv_istore C.x C.b hd hl.has (by rw [← hl.2.2.1]; exact hi) rfl (fun ls' h' => k H locs ls' hP hD hS (hl.put rfl h'))
theorem r_astore_n (C : Cf K l G cc own ret rm) {j : Fin 4} (i : Nat) {x : Nat} (hd : decode cc pc = .ok (.astore_n j, 1)) (hj : (j : Nat) = i) (hi : i < vs.length) (k : Wc K G (pc + 1) (vs.set i (some (.ref x))) st gs) : Wc K G pc vs (.ref x :: st) gs := by
  intro H locs ls hP hD hS hl
  exact lv_astore_n C.x C.b hd hj hl.has (by rw [← hl.2.2.1]; exact hi) rfl (fun ls' h' => k H locs ls' hP hD hS (hl.put rfl h'))
theorem r_astore (C : Cf K l G cc own ret rm) {i : Nat} {x : Nat} (hd : decode cc pc = .ok (.astore i, 2)) (hi : i < vs.length) (k : Wc K G (pc + 2) (vs.set i (some (.ref x))) st gs) : Wc K G pc vs (.ref x :: st) gs := by
  intro H locs ls hP hD hS hl
  exact lv_astore C.x C.b hd hl.has (by rw [← hl.2.2.1]; exact hi) rfl (fun ls' h' => k H locs ls' hP hD hS (hl.put rfl h'))
theorem r_iinc (C : Cf K l G cc own ret rm) {i : Nat} {n a : Int} (hd : decode cc pc = .ok (.iinc i n, 3)) (hv : vs[i]? = some (some (.int (iI a)))) (k : Wc K G (pc + 3) (vs.set i (some (.int (iI (a + n))))) st gs) : Wc K G pc vs st gs := by
  intro H locs ls hP hD hS hl
  obtain ⟨p, hp⟩ := List.getElem?_of_mem (lp_mem (vs := vs) (i := 0) (q := (i, .int (iI a))) |>.mpr ⟨Nat.zero_le _, by rw [Nat.sub_zero]; exact hv⟩)
  exact lv_iinc C.x C.b (k := p) (v := iI (a + n)) hd hl.has hp (iI_add a n) (by rw [← hl.2.2.1]; exact (List.getElem?_eq_some_iff.mp hv).1) rfl (fun ls' h' => k H locs ls' hP hD hS (hl.put rfl h'))
theorem r_if_eq (C : Cf K l G cc own ret rm) {a off : Int} {tgt : Nat} (hd : decode cc pc = .ok (.ifCond .eq off, 3)) (ht : (pc : Int) + off = (tgt : Int)) (ha : -2147483648 ≤ a ∧ a < 2147483648) (kt : a = 0 → Wc K G tgt vs st gs) (kf : a ≠ 0 → Wc K G (pc + 3) vs st gs) : Wc K G pc vs (.int (iI a) :: st) gs := by
  intro H locs ls hP hD hS hl
  exact lv_if_eq C.x C.b hd ht (fun h => kt ((iI_eq ha (show -2147483648 ≤ (0:Int) ∧ (0:Int) < 2147483648 by decide)).mp h) H locs ls hP hD hS hl) (fun h => kf (fun q => h ((iI_eq ha (show -2147483648 ≤ (0:Int) ∧ (0:Int) < 2147483648 by decide)).mpr q)) H locs ls hP hD hS hl)
theorem r_icmp_eq (C : Cf K l G cc own ret rm) {a b off : Int} {tgt : Nat} (hd : decode cc pc = .ok (.if_icmp .eq off, 3)) (ht : (pc : Int) + off = (tgt : Int)) (ha : -2147483648 ≤ a ∧ a < 2147483648) (hb : -2147483648 ≤ b ∧ b < 2147483648) (kt : a = b → Wc K G tgt vs st gs) (kf : a ≠ b → Wc K G (pc + 3) vs st gs) : Wc K G pc vs (.int (iI b) :: .int (iI a) :: st) gs := by
  intro H locs ls hP hD hS hl
  exact lv_icmp_eq C.x C.b hd ht (fun h => kt ((iI_eq ha hb).mp h) H locs ls hP hD hS hl) (fun h => kf (fun q => h ((iI_eq ha hb).mpr q)) H locs ls hP hD hS hl)
theorem r_if_ne (C : Cf K l G cc own ret rm) {a off : Int} {tgt : Nat} (hd : decode cc pc = .ok (.ifCond .ne off, 3)) (ht : (pc : Int) + off = (tgt : Int)) (ha : -2147483648 ≤ a ∧ a < 2147483648) (kt : a ≠ 0 → Wc K G tgt vs st gs) (kf : a = 0 → Wc K G (pc + 3) vs st gs) : Wc K G pc vs (.int (iI a) :: st) gs := by
  intro H locs ls hP hD hS hl
  exact lv_if_ne C.x C.b hd ht (fun h => kt (fun q => h ((iI_eq ha (show -2147483648 ≤ (0:Int) ∧ (0:Int) < 2147483648 by decide)).mpr q)) H locs ls hP hD hS hl) (fun h => kf ((iI_eq ha (show -2147483648 ≤ (0:Int) ∧ (0:Int) < 2147483648 by decide)).mp h) H locs ls hP hD hS hl)
theorem r_icmp_ne (C : Cf K l G cc own ret rm) {a b off : Int} {tgt : Nat} (hd : decode cc pc = .ok (.if_icmp .ne off, 3)) (ht : (pc : Int) + off = (tgt : Int)) (ha : -2147483648 ≤ a ∧ a < 2147483648) (hb : -2147483648 ≤ b ∧ b < 2147483648) (kt : a ≠ b → Wc K G tgt vs st gs) (kf : a = b → Wc K G (pc + 3) vs st gs) : Wc K G pc vs (.int (iI b) :: .int (iI a) :: st) gs := by
  intro H locs ls hP hD hS hl
  exact lv_icmp_ne C.x C.b hd ht (fun h => kt (fun q => h ((iI_eq ha hb).mpr q)) H locs ls hP hD hS hl) (fun h => kf ((iI_eq ha hb).mp h) H locs ls hP hD hS hl)
theorem r_if_lt (C : Cf K l G cc own ret rm) {a off : Int} {tgt : Nat} (hd : decode cc pc = .ok (.ifCond .lt off, 3)) (ht : (pc : Int) + off = (tgt : Int)) (ha : -2147483648 ≤ a ∧ a < 2147483648) (kt : a < 0 → Wc K G tgt vs st gs) (kf : 0 ≤ a → Wc K G (pc + 3) vs st gs) : Wc K G pc vs (.int (iI a) :: st) gs := by
  intro H locs ls hP hD hS hl
  exact lv_if_lt C.x C.b hd ht (fun h => kt ((iI_lt ha (show -2147483648 ≤ (0:Int) ∧ (0:Int) < 2147483648 by decide)).mp h) H locs ls hP hD hS hl) (fun h => kf (Int.not_lt.mp (fun q => h ((iI_lt ha (show -2147483648 ≤ (0:Int) ∧ (0:Int) < 2147483648 by decide)).mpr q))) H locs ls hP hD hS hl)
theorem r_icmp_lt (C : Cf K l G cc own ret rm) {a b off : Int} {tgt : Nat} (hd : decode cc pc = .ok (.if_icmp .lt off, 3)) (ht : (pc : Int) + off = (tgt : Int)) (ha : -2147483648 ≤ a ∧ a < 2147483648) (hb : -2147483648 ≤ b ∧ b < 2147483648) (kt : a < b → Wc K G tgt vs st gs) (kf : b ≤ a → Wc K G (pc + 3) vs st gs) : Wc K G pc vs (.int (iI b) :: .int (iI a) :: st) gs := by
  intro H locs ls hP hD hS hl
  exact lv_icmp_lt C.x C.b hd ht (fun h => kt ((iI_lt ha hb).mp h) H locs ls hP hD hS hl) (fun h => kf (Int.not_lt.mp (fun q => h ((iI_lt ha hb).mpr q))) H locs ls hP hD hS hl)
theorem r_if_ge (C : Cf K l G cc own ret rm) {a off : Int} {tgt : Nat} (hd : decode cc pc = .ok (.ifCond .ge off, 3)) (ht : (pc : Int) + off = (tgt : Int)) (ha : -2147483648 ≤ a ∧ a < 2147483648) (kt : 0 ≤ a → Wc K G tgt vs st gs) (kf : a < 0 → Wc K G (pc + 3) vs st gs) : Wc K G pc vs (.int (iI a) :: st) gs := by
  intro H locs ls hP hD hS hl
  exact lv_if_ge C.x C.b hd ht (fun h => kt ((iI_le (show -2147483648 ≤ (0:Int) ∧ (0:Int) < 2147483648 by decide) ha).mp h) H locs ls hP hD hS hl) (fun h => kf (Int.not_le.mp (fun q => h ((iI_le (show -2147483648 ≤ (0:Int) ∧ (0:Int) < 2147483648 by decide) ha).mpr q))) H locs ls hP hD hS hl)
theorem r_icmp_ge (C : Cf K l G cc own ret rm) {a b off : Int} {tgt : Nat} (hd : decode cc pc = .ok (.if_icmp .ge off, 3)) (ht : (pc : Int) + off = (tgt : Int)) (ha : -2147483648 ≤ a ∧ a < 2147483648) (hb : -2147483648 ≤ b ∧ b < 2147483648) (kt : b ≤ a → Wc K G tgt vs st gs) (kf : a < b → Wc K G (pc + 3) vs st gs) : Wc K G pc vs (.int (iI b) :: .int (iI a) :: st) gs := by
  intro H locs ls hP hD hS hl
  exact lv_icmp_ge C.x C.b hd ht (fun h => kt ((iI_le hb ha).mp h) H locs ls hP hD hS hl) (fun h => kf (Int.not_le.mp (fun q => h ((iI_le hb ha).mpr q))) H locs ls hP hD hS hl)
theorem r_if_gt (C : Cf K l G cc own ret rm) {a off : Int} {tgt : Nat} (hd : decode cc pc = .ok (.ifCond .gt off, 3)) (ht : (pc : Int) + off = (tgt : Int)) (ha : -2147483648 ≤ a ∧ a < 2147483648) (kt : 0 < a → Wc K G tgt vs st gs) (kf : a ≤ 0 → Wc K G (pc + 3) vs st gs) : Wc K G pc vs (.int (iI a) :: st) gs := by
  intro H locs ls hP hD hS hl
  exact lv_if_gt C.x C.b hd ht (fun h => kt ((iI_lt (show -2147483648 ≤ (0:Int) ∧ (0:Int) < 2147483648 by decide) ha).mp h) H locs ls hP hD hS hl) (fun h => kf (Int.not_lt.mp (fun q => h ((iI_lt (show -2147483648 ≤ (0:Int) ∧ (0:Int) < 2147483648 by decide) ha).mpr q))) H locs ls hP hD hS hl)
theorem r_icmp_gt (C : Cf K l G cc own ret rm) {a b off : Int} {tgt : Nat} (hd : decode cc pc = .ok (.if_icmp .gt off, 3)) (ht : (pc : Int) + off = (tgt : Int)) (ha : -2147483648 ≤ a ∧ a < 2147483648) (hb : -2147483648 ≤ b ∧ b < 2147483648) (kt : b < a → Wc K G tgt vs st gs) (kf : a ≤ b → Wc K G (pc + 3) vs st gs) : Wc K G pc vs (.int (iI b) :: .int (iI a) :: st) gs := by
  intro H locs ls hP hD hS hl
  exact lv_icmp_gt C.x C.b hd ht (fun h => kt ((iI_lt hb ha).mp h) H locs ls hP hD hS hl) (fun h => kf (Int.not_lt.mp (fun q => h ((iI_lt hb ha).mpr q))) H locs ls hP hD hS hl)
theorem r_if_le (C : Cf K l G cc own ret rm) {a off : Int} {tgt : Nat} (hd : decode cc pc = .ok (.ifCond .le off, 3)) (ht : (pc : Int) + off = (tgt : Int)) (ha : -2147483648 ≤ a ∧ a < 2147483648) (kt : a ≤ 0 → Wc K G tgt vs st gs) (kf : 0 < a → Wc K G (pc + 3) vs st gs) : Wc K G pc vs (.int (iI a) :: st) gs := by
  intro H locs ls hP hD hS hl
  exact lv_if_le C.x C.b hd ht (fun h => kt ((iI_le ha (show -2147483648 ≤ (0:Int) ∧ (0:Int) < 2147483648 by decide)).mp h) H locs ls hP hD hS hl) (fun h => kf (Int.not_le.mp (fun q => h ((iI_le ha (show -2147483648 ≤ (0:Int) ∧ (0:Int) < 2147483648 by decide)).mpr q))) H locs ls hP hD hS hl)
theorem r_icmp_le (C : Cf K l G cc own ret rm) {a b off : Int} {tgt : Nat} (hd : decode cc pc = .ok (.if_icmp .le off, 3)) (ht : (pc : Int) + off = (tgt : Int)) (ha : -2147483648 ≤ a ∧ a < 2147483648) (hb : -2147483648 ≤ b ∧ b < 2147483648) (kt : a ≤ b → Wc K G tgt vs st gs) (kf : b < a → Wc K G (pc + 3) vs st gs) : Wc K G pc vs (.int (iI b) :: .int (iI a) :: st) gs := by
  intro H locs ls hP hD hS hl
  exact lv_icmp_le C.x C.b hd ht (fun h => kt ((iI_le ha hb).mp h) H locs ls hP hD hS hl) (fun h => kf (Int.not_le.mp (fun q => h ((iI_le ha hb).mpr q))) H locs ls hP hD hS hl)
theorem r_ifb_eq (C : Cf K l G cc own ret rm) {p : Prop} [Decidable p] {off : Int} {tgt : Nat} (hd : decode cc pc = .ok (.ifCond .eq off, 3)) (ht : (pc : Int) + off = (tgt : Int)) (kt : ¬ p → Wc K G tgt vs st gs) (kf : p → Wc K G (pc + 3) vs st gs) : Wc K G pc vs (.int (iI (zb p)) :: st) gs :=
  r_if_eq C hd ht (by have := zb_r p; omega) (fun h => kt (zb_eq0.mp h)) (fun h => kf (Classical.not_not.mp (fun q => h (zb_eq0.mpr q))))
theorem r_ifb_ne (C : Cf K l G cc own ret rm) {p : Prop} [Decidable p] {off : Int} {tgt : Nat} (hd : decode cc pc = .ok (.ifCond .ne off, 3)) (ht : (pc : Int) + off = (tgt : Int)) (kt : p → Wc K G tgt vs st gs) (kf : ¬ p → Wc K G (pc + 3) vs st gs) : Wc K G pc vs (.int (iI (zb p)) :: st) gs :=
  r_if_ne C hd ht (by have := zb_r p; omega) (fun h => kt (Classical.not_not.mp (fun q => h (zb_eq0.mpr q)))) (fun h => kf (zb_eq0.mp h))
theorem r_goto (C : Cf K l G cc own ret rm) {off : Int} {tgt : Nat} (hd : decode cc pc = .ok (.goto off, 3)) (ht : (pc : Int) + off = (tgt : Int)) (k : Wc K G tgt vs st gs) : Wc K G pc vs st gs := by
  intro H locs ls hP hD hS hl
  exact lv_goto C.x C.b hd ht (k H locs ls hP hD hS hl)
theorem r_tblOut (C : Cf K l G cc own ret rm) {a dflt lo hi : Int} {offs : Array Int} {len tgt : Nat} (hd : decode cc pc = .ok (.tableswitch dflt lo hi offs, len)) (ha : -2147483648 ≤ a ∧ a < 2147483648) (h : a < lo ∨ hi < a) (ht : (pc : Int) + dflt = (tgt : Int)) (k : Wc K G tgt vs st gs) : Wc K G pc vs (.int (iI a) :: st) gs := by
  intro H locs ls hP hD hS hl
  exact lv_tableOut C.x C.b hd (by rw [iI_toInt ha]; exact h) ht (k H locs ls hP hD hS hl)
theorem r_tblIn (C : Cf K l G cc own ret rm) {a dflt lo hi off : Int} {offs : Array Int} {len tgt : Nat} (n : Int) (hd : decode cc pc = .ok (.tableswitch dflt lo hi offs, len)) (ha : a = n) (hn : -2147483648 ≤ n ∧ n < 2147483648) (h1 : ¬ n < lo) (h2 : ¬ hi < n) (ho : offs[(n - lo).toNat]? = some off) (ht : (pc : Int) + off = (tgt : Int)) (k : Wc K G tgt vs st gs) : Wc K G pc vs (.int (iI a) :: st) gs := by
  subst ha
  intro H locs ls hP hD hS hl
  exact lv_tableIn C.x C.b hd (by rw [iI_toInt hn]; exact h1) (by rw [iI_toInt hn]; exact h2) (by rw [iI_toInt hn]; exact ho) ht (k H locs ls hP hD hS hl)
theorem r_look (C : Cf K l G cc own ret rm) {a dflt off : Int} {ps : Array (Int × Int)} {len tgt : Nat} (hd : decode cc pc = .ok (.lookupswitch dflt ps, len)) (ha : -2147483648 ≤ a ∧ a < 2147483648) (hp : (ps.toList.zip (ps.toList.drop 1)).all (fun (a, next) => a.1 < next.1) = true) (ho : Op.lookupswitch.offset ps.toList dflt a = off) (ht : (pc : Int) + off = (tgt : Int)) (k : Wc K G tgt vs st gs) : Wc K G pc vs (.int (iI a) :: st) gs := by
  intro H locs ls hP hD hS hl
  exact lv_lookup C.x C.b hd hp (by rw [iI_toInt ha]; exact ho) ht (k H locs ls hP hD hS hl)
theorem z_osw {a k o d : Int} {r : List (Int × Int)} (h : ¬ a = k) : Op.lookupswitch.offset ((k, o) :: r) d a = Op.lookupswitch.offset r d a := by
  rw [Op.lookupswitch.offset_cons, if_neg]
  exact fun q => h q.symm
theorem z_osy {k o d : Int} {r : List (Int × Int)} : Op.lookupswitch.offset ((k, o) :: r) d k = o := by
  rw [Op.lookupswitch.offset_cons, if_pos rfl]
/-- a field is read: group i, place k, field f -/
theorem r_get (C : Cf K l G cc own ret rm) {C0 ref : String} {T : u_T} {N ci idx a : Nat} {g : va_W} {fs : List Value} {v : Value} (i q0 f : Nat) (hd : decode cc pc = .ok (.getfield idx, 3)) (hin : ∀ w ∈ u_ws C0 T N, w ∈ lw_g) (hg : gs[i]? = some g) (he : g[q0]? = some (a, .inr (ci, fs))) (hc : vwCl[ci]? = some (C0, T, N)) (hf : f < N) (hw : Cond.fieldLink own idx ref (T f).2.1 (T f).2.2.1 ∈ lw_g) (hs : (T f).1 = ref) (hv : fs[f]? = some v) (k : Wc K G (pc + 3) vs (v :: st) gs) : Wc K G pc vs (.ref a :: st) gs := by
  intro H locs ls hP hD hS hl
  exact va_get (T := T) C.x C.b C.t hin C.o C.k hP (offG gs i + q0) (off_get hg he) hc f hf (C.t _ hw) (fun x hx => by rw [← hs]; exact hx) hv hd (k H locs ls hP hD hS hl)
/-- a field is written -/
theorem r_put (C : Cf K l G cc own ret rm) {C0 ref : String} {T : u_T} {N ci idx a : Nat} {g g' : va_W} {gs' : List va_W} {fs : List Value} {v : Value} {ty : FieldType} {ty0 : Nat → FieldType} (i q0 f : Nat) (hd : decode cc pc = .ok (.putfield idx, 3)) (hin : ∀ w ∈ u_ws C0 T N, w ∈ lw_g) (hty : ∀ k, k < N → parseFieldDescriptor (T k).2.2.1 = some (ty0 k)) (hnm : ∀ a, a < N → ∀ b, b < N → a ≠ b → (T a).2.1 ≠ (T b).2.1) (hg : gs[i]? = some g) (he : g[q0]? = some (a, .inr (ci, fs))) (hc : vwCl[ci]? = some (C0, T, N)) (hf : f < N) (hw : Cond.fieldLink own idx ref (T f).2.1 (T f).2.2.1 ∈ lw_g) (hs : (T f).1 = ref) (hfin : (T f).2.2.2 = false) (hpd : parseFieldDescriptor (T f).2.2.1 = some ty) (hn : narrow ty v = v) (hfit : fits ty v = true) (hlen : f < fs.length)
    (hg' : g.set q0 (a, .inr (ci, fs.set f v)) = g') (hgs : gs.set i g' = gs') (k : Wc K G (pc + 3) vs st gs') : Wc K G pc vs (v :: .ref a :: st) gs := by
  intro H locs ls hP hD hS hl
  subst hg' hgs
  have hq := (List.getElem?_eq_some_iff.mp he).1
  refine va_put (T := T) C.x C.b C.t hin ty0 hty hnm C.o C.k hP hD.va hS (offG gs i + q0) (off_get hg he) hc f hf (C.t _ hw) (fun x hx => by rw [← hs]; exact hx) hfin hpd hn hfit hlen hd (fun H1 locs1 hP1 hD1 hS1 => ?_)
  rw [off_set hg hq] at hP1
  have e : shp (gs.set i (g.set q0 (a, .inr (ci, fs.set f v)))) = shp gs := by
    refine shp_set hg ?_
    rw [List.map_set]
    apply List.ext_getElem?
    intro j
    by_cases hj : q0 = j
    · subst hj
      rw [List.getElem?_set_self', List.getElem?_map, he]
      rfl
    · rw [List.getElem?_set_ne hj]
  exact k H1 locs1 ls hP1 (hD.same e) hS1 hl
end
/-! arrays of ints: cell contents given over the integers -/
def zup (F : Int → Int) (z v : Int) : Int → Int := fun j => if j = z then v else F j
theorem zup_s (F : Int → Int) (z v : Int) : zup F z v z = v := if_pos rfl
theorem zup_n {F : Int → Int} {z v j : Int} (h : j ≠ z) : zup F z v j = F j := if_neg h
def ia (cI : ClassId) (n : Nat) (F : Int → Int) : va_E := .inl (cI, n, .inl (fun j => iI (F (j : Int))))
def qa (cD : ClassId) (n : Nat) (F : Nat → Option Nat) : va_E := .inl (cD, n, .inr (.inr (.inr (.inr F))))
section
variable {K : KT} {l : Launch} {G : GT} {cc : ByteArray} {own : String} {ret : Option FieldType} {rm : Room} {pc : Nat} {vs : List (Option Value)} {st : List Value} {gs : List va_W}
theorem r_iaload (C : Cf K l G cc own ret rm) {a n : Nat} {z : Int} {g : va_W} {F : Int → Int} (i q0 : Nat) (hd : decode cc pc = .ok (.iaload, 1)) (hg : gs[i]? = some g) (he : g[q0]? = some (a, ia G.2.1 n F)) (hn : n < 2147483648) (hz : 0 ≤ z ∧ z < n) (k : Wc K G (pc + 1) vs (.int (iI (F z)) :: st) gs) : Wc K G pc vs (.int (iI z) :: .ref a :: st) gs := by
  intro H locs ls hP hD hS hl
  refine va_iald C.x C.b C.k hP (offG gs i + q0) 0 (off_get hg he) rfl (iI_in hz hn) hd ?_
  rw [iI_clamp (by omega)]
  rw [show ((z.toNat : Nat) : Int) = z by omega]
  exact k H locs ls hP hD hS hl
theorem r_iastore (C : Cf K l G cc own ret rm) {a n : Nat} {z v : Int} {g g' : va_W} {gs' : List va_W} {F : Int → Int} (i q0 : Nat) (hd : decode cc pc = .ok (.iastore, 1)) (hg : gs[i]? = some g) (he : g[q0]? = some (a, ia G.2.1 n F)) (hn : n < 2147483648) (hz : 0 ≤ z ∧ z < n) (hg' : g.set q0 (a, ia G.2.1 n (zup F z v)) = g') (hgs : gs.set i g' = gs') (k : Wc K G (pc + 1) vs st gs') : Wc K G pc vs (.int (iI v) :: .int (iI z) :: .ref a :: st) gs := by
  intro H locs ls hP hD hS hl
  subst hg' hgs
  have hq := (List.getElem?_eq_some_iff.mp he).1
  refine va_iast C.x C.b C.k hP hD.va hS (offG gs i + q0) 0 (off_get hg he) rfl (iI_in hz hn) hd (fun H1 locs1 hP1 hD1 hS1 => ?_)
  have e0 : (.inl (G.2.1, n, .inl (upd (fun j => iI (F (j : Int))) (iI z).toNatClampNeg (iI v))) : va_E) = ia G.2.1 n (zup F z v) := by
    unfold ia
    rw [iI_clamp (by omega)]
    have : upd (fun j => iI (F (j : Int))) z.toNat (iI v) = fun j : Nat => iI (zup F z v (j : Int)) := by
      funext j
      unfold upd zup
      by_cases hj : j = z.toNat
      · rw [if_pos hj, if_pos (by omega)]
      · rw [if_neg hj, if_neg (by omega)]
    rw [this]
  rw [e0, off_set hg hq] at hP1
  have e : shp (gs.set i (g.set q0 (a, ia G.2.1 n (zup F z v)))) = shp gs := by
    refine shp_set hg ?_
    rw [List.map_set]
    apply List.ext_getElem?
    intro j
    by_cases hj : q0 = j
    · subst hj
      rw [List.getElem?_set_self', List.getElem?_map, he]
      rfl
    · rw [List.getElem?_set_ne hj]
  exact k H1 locs1 ls hP1 (hD.same e) hS1 hl
theorem r_aaload (C : Cf K l G cc own ret rm) {a n q : Nat} {z : Int} {g : va_W} {F : Nat → Option Nat} (i q0 : Nat) (hd : decode cc pc = .ok (.aaload, 1)) (hg : gs[i]? = some g) (he : g[q0]? = some (a, qa G.2.2.1 n F)) (hn : n < 2147483648) (hz : 0 ≤ z ∧ z < n) (hq : F z.toNat = some q) (k : Wc K G (pc + 1) vs (.ref q :: st) gs) : Wc K G pc vs (.int (iI z) :: .ref a :: st) gs := by
  intro H locs ls hP hD hS hl
  refine va_aldq C.x C.b C.k hP (offG gs i + q0) 1 (off_get hg he) rfl (iI_in hz hn) hd ?_
  rw [iI_clamp (by omega), hq]
  exact k H locs ls hP hD hS hl
theorem r_ilen (C : Cf K l G cc own ret rm) {a n : Nat} {g : va_W} {F : Int → Int} (i q0 : Nat) (hd : decode cc pc = .ok (.arraylength, 1)) (hg : gs[i]? = some g) (he : g[q0]? = some (a, ia G.2.1 n F)) (k : Wc K G (pc + 1) vs (.int (iI (n : Int)) :: st) gs) : Wc K G pc vs (.ref a :: st) gs := by
  intro H locs ls hP hD hS hl
  exact va_alen C.x C.b C.k hP (offG gs i + q0) 0 (off_get hg he) rfl (v := iI (n : Int)) (iI_nat n).symm hd (k H locs ls hP hD hS hl)
theorem r_qlen (C : Cf K l G cc own ret rm) {a n : Nat} {g : va_W} {F : Nat → Option Nat} (i q0 : Nat) (hd : decode cc pc = .ok (.arraylength, 1)) (hg : gs[i]? = some g) (he : g[q0]? = some (a, qa G.2.2.1 n F)) (k : Wc K G (pc + 1) vs (.int (iI (n : Int)) :: st) gs) : Wc K G pc vs (.ref a :: st) gs := by
  intro H locs ls hP hD hS hl
  exact va_alen C.x C.b C.k hP (offG gs i + q0) 1 (off_get hg he) rfl (v := iI (n : Int)) (iI_nat n).symm hd (k H locs ls hP hD hS hl)
/-! ends -/
theorem Rq.end {gs0 : List va_W} {Post : Option Value → List va_W → Prop} (hq : Rq K G gs0 Post) {v : Option Value} (h : Post v gs) (hs : shp gs = shp gs0) {H : Heap} {locs : List Loc} (hP : PG G.1 gs H) (hS : va_S (kA K) (ks K).heap H locs) : (∀ t : State, t.heap = H → (ks K).WarmedH t.vm → Qcn G gs0 Post (ka K) (ks K) (.returned v) t) ∧ ∀ q ∈ locs, Ad gs0 q.base := by
  obtain ⟨-, hA, -, -⟩ := hq
  rw [hA] at hS
  exact ⟨fun t ht _ => ⟨v, gs, rfl, h, hs, by rw [ht]; exact hP, hS.F ht⟩, hS.2.2⟩
theorem r_iret (C : Cf K l G cc own (some .int) rm) {gs0 : List va_W} {Post : Option Value → List va_W → Prop} (hq : Rq K G gs0 Post) {a : Int} (hd : decode cc pc = .ok (.ireturn, 1)) (hs : shp gs = shp gs0) (h : Post (some (.int (iI a))) gs) : Wc K G pc vs [.int (iI a)] gs := by
  intro H locs ls hP hD hS hl
  obtain ⟨h1, h2⟩ := hq.end h hs hP hS
  rw [hq.1, hq.2.2.1, hq.2.2.2]
  exact W.iret C.x C.b C.r h1 h2 hd C.lk
theorem r_zret (C : Cf K l G cc own (some .boolean) rm) {gs0 : List va_W} {Post : Option Value → List va_W → Prop} (hq : Rq K G gs0 Post) {a : Int} (hd : decode cc pc = .ok (.ireturn, 1)) (ha : a = 0 ∨ a = 1) (hs : shp gs = shp gs0) (h : Post (some (.int (iI a))) gs) : Wc K G pc vs [.int (iI a)] gs := by
  intro H locs ls hP hD hS hl
  obtain ⟨h1, h2⟩ := hq.end h hs hP hS
  rw [hq.1, hq.2.2.1, hq.2.2.2]
  exact W.zret C.x C.b C.r (by rcases ha with rfl | rfl <;> rfl) h1 h2 hd C.lk
theorem r_vret (C : Cf K l G cc own none rm) {gs0 : List va_W} {Post : Option Value → List va_W → Prop} (hq : Rq K G gs0 Post) (hd : decode cc pc = .ok (.return_, 1)) (hs : shp gs = shp gs0) (h : Post none gs) : Wc K G pc vs [] gs := by
  intro H locs ls hP hD hS hl
  obtain ⟨h1, h2⟩ := hq.end h hs hP hS
  rw [hq.1, hq.2.2.1, hq.2.2.2]
  exact W.vret C.x C.b C.r h1 h2 hd C.lk
theorem r_aret (C : Cf K l G cc own ret rm) {gs0 : List va_W} {Post : Option Value → List va_W → Prop} (hq : Rq K G gs0 Post) {a : Nat} {n : String} (hr : ret = some (.object n)) (hd : decode cc pc = .ok (.areturn, 1)) (hs : shp gs = shp gs0) (h : Post (some (.ref a)) gs) : Wc K G pc vs [.ref a] gs := by
  intro H locs ls hP hD hS hl
  obtain ⟨h1, h2⟩ := hq.end h hs hP hS
  rw [hq.1, hq.2.2.1, hq.2.2.2]
  exact W.aret C.x C.b (C.r.trans hr) (Or.inl ⟨n, rfl⟩) (Or.inr ⟨a, rfl⟩) h1 h2 hd C.lk
end
/-! a contract's proof begins -/
theorem Cn_in {l : Launch} {y : MethodName} {bytes : ByteArray} {maxL : Nat} {ret : Option FieldType} {rm : Room} {G : GT} {av : List Value} {gs : List va_W} {Post : Option Value → List va_W → Prop} (own : String) (vs : List (Option Value)) (hy : plainName y.cls = true) (ho : y.cls = own) (hc : av.all (fun v => v.category == 1) = true) (hvs : av.map some ++ List.replicate (maxL - av.length) none = vs) (hm : av.length ≤ maxL) (body : ∀ K : KT, Cf K l G bytes own ret rm → Rq K G gs Post → Wc K G 0 vs [] gs) : Cn l y bytes maxL ret rm G av gs Post := by
  refine Met.ofW (cc := bytes) (maxL := maxL) (ret := ret) hy rfl ?_
  intro p e s m args below meth c s₁ B hml hv
  obtain ⟨rfl, hP, hN, hK, hZ⟩ := hv
  have hcat : ∀ v ∈ av, v.category = 1 := fun v h => by simpa using List.all_eq_true.mp hc v h
  have hsl : lg_sl av = av.map Slot.val := by
    clear hP hZ hvs hm body B
    induction av with
    | nil => rfl
    | cons v r ih =>
      show (if v.category = 2 then [Slot.val v, Slot.second] else [Slot.val v]) ++ lg_sl r = _
      rw [if_neg (by rw [hcat v List.mem_cons_self]; decide), ih (List.all_eq_true.mpr (fun w hw => by simpa using hcat w (List.mem_cons_of_mem _ hw))) (fun w hw => hcat w (List.mem_cons_of_mem _ hw))]
      rfl
  have hlen : (lg_sl av).length ≤ maxL := by rw [hsl, List.length_map]; exact hm
  have hle := lv_entry av hlen
  rw [lg_entry_eq]
  have hts := atoms_spec (ws := wU y bytes maxL ret) B.pre
  have hLV : LV ((lg_sl av ++ List.replicate (maxL - (lg_sl av).length) Slot.unset).toArray) maxL vs := by
    refine ⟨hle.1, hle.2.1, ?_, fun i v hi => ?_⟩
    · rw [← hvs, List.length_append, List.length_map, List.length_replicate]
      omega
    · rw [← hvs] at hi
      by_cases h : i < av.length
      · rw [List.getElem?_append_left (by rw [List.length_map]; exact h), List.getElem?_map] at hi
        cases hq : av[i]? with
        | none => rw [hq] at hi; cases hi
        | some w =>
          rw [hq] at hi
          have e : w = v := Option.some.inj (Option.some.inj hi)
          subst e
          refine ⟨hcat w (List.mem_of_getElem? hq), ?_⟩
          rw [List.getElem?_toArray, hsl, List.getElem?_append_left (by rw [List.length_map]; exact h), List.getElem?_map, hq]
          rfl
      · rw [List.getElem?_append_right (by rw [List.length_map]; omega), List.getElem?_replicate] at hi
        split at hi <;> cases hi
  refine body (p, l, e, (headSpec (wU y bytes maxL ret) rm).room, s, m, av.toArray, below, meth, c, 0, 0, MQ below (Qcn G gs Post) av.toArray s 0 0 (Ad gs), Ad gs, maxL) ⟨B.exec, B.bytes, B.returns, B.notSynchronized, hml, ?_, fun w hw => hts w (List.mem_cons_of_mem _ hw), hK, hZ, rfl, rfl, Nat.zero_le _, Nat.zero_le _⟩ ⟨rfl, rfl, rfl, rfl⟩ _ _ _ hP ⟨hN, fun q hq => hq⟩ va_S.rf hLV
  rw [← ho]
  exact findClass_of_methodNamed B.named
