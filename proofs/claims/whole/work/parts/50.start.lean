/-! THE CLAIM OUT OF ONE WALK OF THE LAW'S BODY. Your part is whole_start (and what it stands on); all else here is the same for every law, but numbers. -/
def R_law : String := "CoinsAreDovesLaw"
def lw_P (b : Addr) (xs : List Int32) (args : Array Value) (s : State) : Prop := args = #[.ref b] ∧ s.IntsAt b xs ∧ xs.length ≤ 2560 ∧ (Jvm.Cond.and given_1 narrow_1).before args s = true
def lw_Q (_ : Array Value) (s : State) (o : Outcome) (t : State) : Prop := o = .returned (some (.int 1)) ∧ Framed s o t [] 61 640
def lw_Z (below : List Frame) (a : Array Value) (s : State) : State → Prop := fun t => ∃ o, t.status = .running ∧ Ended t below o ∧ lw_Q a s o t
/-- the law's own end, with 1 on the stack, nothing written that was there before, its room as the claim has it -/
theorem lw_ret {p : Program} {l : Launch} {e : Env} {s : State} {m : MethodId} {below : List Frame} {meth : Method} {c : Code} {b : Nat} (hx : p.tables.exec = Jvm.exec) (hb : c.code = code) (hr : meth.sig.returnType = ret) (hlocks : meth.locks = false) {pc : Nat} {H : Heap} {ls : Array Slot} (hdg : decode code pc = .ok (.ireturn, 1)) : W p l e room_1 s m #[Value.ref b] below meth c H [] 61 640 (lw_Z below #[Value.ref b] s) (F0 m pc ls [.int 1]) := by
  intro T hT X
  obtain ⟨fs, hret, hrun, hended, hW, hframe⟩ := X.leave (v := some (.int 1)) (hlocks := hlocks) (fun h => by rw [hr] at h; cases h)
  have hmeth' : T.vm.method? m = some meth := X.method'
  refine ⟨T.setFrames fs, ?_, .returned (some (.int 1)), hrun, hended, rfl, ⟨_, rfl⟩, hW, hframe⟩
  jvm_step X.here [X.here.top, hx, hb, hdg, hmeth', hr, ret, narrow_b1]
  (try refine ⟨rfl, ?_⟩); (try refine ⟨rfl, ?_⟩)
  first | (intro acts; rw [hret _ acts rfl rfl rfl]) | rw [hret _ _ rfl rfl rfl]
  exact Steps.refl _
/-- what holds at the law's entry: the machine, the code, the tables' words (any of lw_tbl by 'hts w (by decide +kernel)'), the script of L ints xs at the cell b, what the Statement gives of the start (any of its parts by flat_of_before) -/
def lw_At (p : Program) (s : State) (m : MethodId) (meth : Method) (c : Code) (b L : Nat) (xs : Nat → Int32) : Prop :=
  p.tables.exec = Jvm.exec ∧ c.code = code ∧ meth.sig.returnType = ret ∧ c.maxLocals = 4 ∧ s.vm.findClass R_law = some m.cls ∧ (∀ w ∈ lw_tbl, w.before #[Value.ref b] s = true) ∧ va_X b L xs s s.heap ∧ b < s.heap.size ∧ meth.locks = false ∧ (Jvm.Cond.and given_1 narrow_1).before #[Value.ref b] s = true

def ixJ : List Nat := [54, 56, 58, 60, 62, 93]
set_option maxRecDepth 100000 in
set_option maxHeartbeats 4000000 in
theorem sf_start {s : State} {b : Nat} (hts : ∀ w ∈ lw_tbl, w.before #[Value.ref b] s = true) (hgv : (Jvm.Cond.and given_1 narrow_1).before #[Value.ref b] s = true) : ∃ adK adV : Nat → Nat, ∀ (D : va_G) (c1 c2 : ClassId), SF (D, c1, c2, adK, adV) (fun q : Nat => s.heap.size ≤ q) s s.heap := by
  have hs := flat_of_before _ hgv
  have hA : ∀ a : Nat, a < s.heap.size → ¬ (fun q : Nat => s.heap.size ≤ q) a := fun a h => Nat.not_le.mpr h
  have hN : ∀ i : Nat, i < 6 → lenJ.getD i 0 < 2 ^ 31 := by decide
  have hex : ∀ i : Nat, i < 6 → (Cond.exactly (Jvm.Term.string RX5 (ixJ.getD i 0)) "java/lang/String").before #[Value.ref b] s = true := by
    intro i hi
    rcases (show i = 0 ∨ i = 1 ∨ i = 2 ∨ i = 3 ∨ i = 4 ∨ i = 5 by omega) with rfl | rfl | rfl | rfl | rfl | rfl
    · exact (hs (Jvm.Cond.exactly (Jvm.Term.string "CoinsAreDoves$Text" (54 : Nat)) "java/lang/String") (List.mem_of_getElem? (i := 9) (by decide +kernel)))
    · exact (hs (Jvm.Cond.exactly (Jvm.Term.string "CoinsAreDoves$Text" (56 : Nat)) "java/lang/String") (List.mem_of_getElem? (i := 16) (by decide +kernel)))
    · exact (hs (Jvm.Cond.exactly (Jvm.Term.string "CoinsAreDoves$Text" (58 : Nat)) "java/lang/String") (List.mem_of_getElem? (i := 25) (by decide +kernel)))
    · exact (hs (Jvm.Cond.exactly (Jvm.Term.string "CoinsAreDoves$Text" (60 : Nat)) "java/lang/String") (List.mem_of_getElem? (i := 33) (by decide +kernel)))
    · exact (hs (Jvm.Cond.exactly (Jvm.Term.string "CoinsAreDoves$Text" (62 : Nat)) "java/lang/String") (List.mem_of_getElem? (i := 43) (by decide +kernel)))
    · exact (hs (Jvm.Cond.exactly (Jvm.Term.string "CoinsAreDoves$Text" (93 : Nat)) "java/lang/String") (List.mem_of_getElem? (i := 51) (by decide +kernel)))
  have hco : ∀ i : Nat, i < 6 → (Cond.eq (.field (Jvm.Term.string RX5 (ixJ.getD i 0)) "java/lang/String" "coder" "B") (.int 0)).before #[Value.ref b] s = true := by
    intro i hi
    rcases (show i = 0 ∨ i = 1 ∨ i = 2 ∨ i = 3 ∨ i = 4 ∨ i = 5 by omega) with rfl | rfl | rfl | rfl | rfl | rfl
    · exact (hs (Jvm.Cond.eq (Jvm.Term.field (Jvm.Term.string "CoinsAreDoves$Text" (54 : Nat)) "java/lang/String" "coder" "B") (Jvm.Term.int (0 : Int32))) (List.mem_of_getElem? (i := 10) (by decide +kernel)))
    · exact (hs (Jvm.Cond.eq (Jvm.Term.field (Jvm.Term.string "CoinsAreDoves$Text" (56 : Nat)) "java/lang/String" "coder" "B") (Jvm.Term.int (0 : Int32))) (List.mem_of_getElem? (i := 17) (by decide +kernel)))
    · exact (hs (Jvm.Cond.eq (Jvm.Term.field (Jvm.Term.string "CoinsAreDoves$Text" (58 : Nat)) "java/lang/String" "coder" "B") (Jvm.Term.int (0 : Int32))) (List.mem_of_getElem? (i := 26) (by decide +kernel)))
    · exact (hs (Jvm.Cond.eq (Jvm.Term.field (Jvm.Term.string "CoinsAreDoves$Text" (60 : Nat)) "java/lang/String" "coder" "B") (Jvm.Term.int (0 : Int32))) (List.mem_of_getElem? (i := 34) (by decide +kernel)))
    · exact (hs (Jvm.Cond.eq (Jvm.Term.field (Jvm.Term.string "CoinsAreDoves$Text" (62 : Nat)) "java/lang/String" "coder" "B") (Jvm.Term.int (0 : Int32))) (List.mem_of_getElem? (i := 44) (by decide +kernel)))
    · exact (hs (Jvm.Cond.eq (Jvm.Term.field (Jvm.Term.string "CoinsAreDoves$Text" (93 : Nat)) "java/lang/String" "coder" "B") (Jvm.Term.int (0 : Int32))) (List.mem_of_getElem? (i := 52) (by decide +kernel)))
  have har : ∀ i : Nat, i < 6 → (Cond.arrayOf (Jvm.Term.field (Jvm.Term.string RX5 (ixJ.getD i 0)) "java/lang/String" "value" "[B") .byte).before #[Value.ref b] s = true := by
    intro i hi
    rcases (show i = 0 ∨ i = 1 ∨ i = 2 ∨ i = 3 ∨ i = 4 ∨ i = 5 by omega) with rfl | rfl | rfl | rfl | rfl | rfl
    · exact (hs (Jvm.Cond.arrayOf (Jvm.Term.field (Jvm.Term.string "CoinsAreDoves$Text" (54 : Nat)) "java/lang/String" "value" "[B") Jvm.ClassFile.FieldType.byte) (List.mem_of_getElem? (i := 11) (by decide +kernel)))
    · exact (hs (Jvm.Cond.arrayOf (Jvm.Term.field (Jvm.Term.string "CoinsAreDoves$Text" (56 : Nat)) "java/lang/String" "value" "[B") Jvm.ClassFile.FieldType.byte) (List.mem_of_getElem? (i := 18) (by decide +kernel)))
    · exact (hs (Jvm.Cond.arrayOf (Jvm.Term.field (Jvm.Term.string "CoinsAreDoves$Text" (58 : Nat)) "java/lang/String" "value" "[B") Jvm.ClassFile.FieldType.byte) (List.mem_of_getElem? (i := 27) (by decide +kernel)))
    · exact (hs (Jvm.Cond.arrayOf (Jvm.Term.field (Jvm.Term.string "CoinsAreDoves$Text" (60 : Nat)) "java/lang/String" "value" "[B") Jvm.ClassFile.FieldType.byte) (List.mem_of_getElem? (i := 35) (by decide +kernel)))
    · exact (hs (Jvm.Cond.arrayOf (Jvm.Term.field (Jvm.Term.string "CoinsAreDoves$Text" (62 : Nat)) "java/lang/String" "value" "[B") Jvm.ClassFile.FieldType.byte) (List.mem_of_getElem? (i := 45) (by decide +kernel)))
    · exact (hs (Jvm.Cond.arrayOf (Jvm.Term.field (Jvm.Term.string "CoinsAreDoves$Text" (93 : Nat)) "java/lang/String" "value" "[B") Jvm.ClassFile.FieldType.byte) (List.mem_of_getElem? (i := 53) (by decide +kernel)))
  have hle : ∀ i : Nat, i < 6 → (Cond.eq (.length (Jvm.Term.field (Jvm.Term.string RX5 (ixJ.getD i 0)) "java/lang/String" "value" "[B")) (.int (Int32.ofNat (lenJ.getD i 0)))).before #[Value.ref b] s = true := by
    intro i hi
    rcases (show i = 0 ∨ i = 1 ∨ i = 2 ∨ i = 3 ∨ i = 4 ∨ i = 5 by omega) with rfl | rfl | rfl | rfl | rfl | rfl
    · exact (hs (Jvm.Cond.eq (Jvm.Term.length (Jvm.Term.field (Jvm.Term.string "CoinsAreDoves$Text" (54 : Nat)) "java/lang/String" "value" "[B")) (Jvm.Term.int (3 : Int32))) (List.mem_of_getElem? (i := 12) (by decide +kernel)))
    · exact (hs (Jvm.Cond.eq (Jvm.Term.length (Jvm.Term.field (Jvm.Term.string "CoinsAreDoves$Text" (56 : Nat)) "java/lang/String" "value" "[B")) (Jvm.Term.int (4 : Int32))) (List.mem_of_getElem? (i := 19) (by decide +kernel)))
    · exact (hs (Jvm.Cond.eq (Jvm.Term.length (Jvm.Term.field (Jvm.Term.string "CoinsAreDoves$Text" (58 : Nat)) "java/lang/String" "value" "[B")) (Jvm.Term.int (2 : Int32))) (List.mem_of_getElem? (i := 28) (by decide +kernel)))
    · exact (hs (Jvm.Cond.eq (Jvm.Term.length (Jvm.Term.field (Jvm.Term.string "CoinsAreDoves$Text" (60 : Nat)) "java/lang/String" "value" "[B")) (Jvm.Term.int (3 : Int32))) (List.mem_of_getElem? (i := 36) (by decide +kernel)))
    · exact (hs (Jvm.Cond.eq (Jvm.Term.length (Jvm.Term.field (Jvm.Term.string "CoinsAreDoves$Text" (62 : Nat)) "java/lang/String" "value" "[B")) (Jvm.Term.int (0 : Int32))) (List.mem_of_getElem? (i := 46) (by decide +kernel)))
    · exact (hs (Jvm.Cond.eq (Jvm.Term.length (Jvm.Term.field (Jvm.Term.string "CoinsAreDoves$Text" (93 : Nat)) "java/lang/String" "value" "[B")) (Jvm.Term.int (6 : Int32))) (List.mem_of_getElem? (i := 54) (by decide +kernel)))
  have hel : ∀ i : Nat, i < 6 → ∀ j : Nat, j < lenJ.getD i 0 → (Cond.eq (.elem (Jvm.Term.field (Jvm.Term.string RX5 (ixJ.getD i 0)) "java/lang/String" "value" "[B") (.int (Int32.ofNat j))) (.int ((bytJ.getD i []).getD j 0))).before #[Value.ref b] s = true := by
    intro i hi
    rcases (show i = 0 ∨ i = 1 ∨ i = 2 ∨ i = 3 ∨ i = 4 ∨ i = 5 by omega) with rfl | rfl | rfl | rfl | rfl | rfl
    · intro j hj
      have hj : j < 3 := hj
      rcases (show j = 0 ∨ j = 1 ∨ j = 2 by omega) with rfl | rfl | rfl
      · exact (hs (Jvm.Cond.eq (Jvm.Term.elem (Jvm.Term.field (Jvm.Term.string "CoinsAreDoves$Text" (54 : Nat)) "java/lang/String" "value" "[B") (Jvm.Term.int (0 : Int32))) (Jvm.Term.int (57 : Int32))) (List.mem_of_getElem? (i := 13) (by decide +kernel)))
      · exact (hs (Jvm.Cond.eq (Jvm.Term.elem (Jvm.Term.field (Jvm.Term.string "CoinsAreDoves$Text" (54 : Nat)) "java/lang/String" "value" "[B") (Jvm.Term.int (1 : Int32))) (Jvm.Term.int (57 : Int32))) (List.mem_of_getElem? (i := 14) (by decide +kernel)))
      · exact (hs (Jvm.Cond.eq (Jvm.Term.elem (Jvm.Term.field (Jvm.Term.string "CoinsAreDoves$Text" (54 : Nat)) "java/lang/String" "value" "[B") (Jvm.Term.int (2 : Int32))) (Jvm.Term.int (59 : Int32))) (List.mem_of_getElem? (i := 15) (by decide +kernel)))
    · intro j hj
      have hj : j < 4 := hj
      rcases (show j = 0 ∨ j = 1 ∨ j = 2 ∨ j = 3 by omega) with rfl | rfl | rfl | rfl
      · exact (hs (Jvm.Cond.eq (Jvm.Term.elem (Jvm.Term.field (Jvm.Term.string "CoinsAreDoves$Text" (56 : Nat)) "java/lang/String" "value" "[B") (Jvm.Term.int (0 : Int32))) (Jvm.Term.int (107 : Int32))) (List.mem_of_getElem? (i := 20) (by decide +kernel)))
      · exact (hs (Jvm.Cond.eq (Jvm.Term.elem (Jvm.Term.field (Jvm.Term.string "CoinsAreDoves$Text" (56 : Nat)) "java/lang/String" "value" "[B") (Jvm.Term.int (1 : Int32))) (Jvm.Term.int (57 : Int32))) (List.mem_of_getElem? (i := 21) (by decide +kernel)))
      · exact (hs (Jvm.Cond.eq (Jvm.Term.elem (Jvm.Term.field (Jvm.Term.string "CoinsAreDoves$Text" (56 : Nat)) "java/lang/String" "value" "[B") (Jvm.Term.int (2 : Int32))) (Jvm.Term.int (57 : Int32))) (List.mem_of_getElem? (i := 22) (by decide +kernel)))
      · exact (hs (Jvm.Cond.eq (Jvm.Term.elem (Jvm.Term.field (Jvm.Term.string "CoinsAreDoves$Text" (56 : Nat)) "java/lang/String" "value" "[B") (Jvm.Term.int (3 : Int32))) (Jvm.Term.int (59 : Int32))) (List.mem_of_getElem? (i := 23) (by decide +kernel)))
    · intro j hj
      have hj : j < 2 := hj
      rcases (show j = 0 ∨ j = 1 by omega) with rfl | rfl
      · exact (hs (Jvm.Cond.eq (Jvm.Term.elem (Jvm.Term.field (Jvm.Term.string "CoinsAreDoves$Text" (58 : Nat)) "java/lang/String" "value" "[B") (Jvm.Term.int (0 : Int32))) (Jvm.Term.int (57 : Int32))) (List.mem_of_getElem? (i := 29) (by decide +kernel)))
      · exact (hs (Jvm.Cond.eq (Jvm.Term.elem (Jvm.Term.field (Jvm.Term.string "CoinsAreDoves$Text" (58 : Nat)) "java/lang/String" "value" "[B") (Jvm.Term.int (1 : Int32))) (Jvm.Term.int (59 : Int32))) (List.mem_of_getElem? (i := 30) (by decide +kernel)))
    · intro j hj
      have hj : j < 3 := hj
      rcases (show j = 0 ∨ j = 1 ∨ j = 2 by omega) with rfl | rfl | rfl
      · exact (hs (Jvm.Cond.eq (Jvm.Term.elem (Jvm.Term.field (Jvm.Term.string "CoinsAreDoves$Text" (60 : Nat)) "java/lang/String" "value" "[B") (Jvm.Term.int (0 : Int32))) (Jvm.Term.int (57 : Int32))) (List.mem_of_getElem? (i := 37) (by decide +kernel)))
      · exact (hs (Jvm.Cond.eq (Jvm.Term.elem (Jvm.Term.field (Jvm.Term.string "CoinsAreDoves$Text" (60 : Nat)) "java/lang/String" "value" "[B") (Jvm.Term.int (1 : Int32))) (Jvm.Term.int (63 : Int32))) (List.mem_of_getElem? (i := 38) (by decide +kernel)))
      · exact (hs (Jvm.Cond.eq (Jvm.Term.elem (Jvm.Term.field (Jvm.Term.string "CoinsAreDoves$Text" (60 : Nat)) "java/lang/String" "value" "[B") (Jvm.Term.int (2 : Int32))) (Jvm.Term.int (59 : Int32))) (List.mem_of_getElem? (i := 39) (by decide +kernel)))
    · intro j hj
      exact absurd hj (Nat.not_lt_zero j)
    · intro j hj
      have hj : j < 6 := hj
      rcases (show j = 0 ∨ j = 1 ∨ j = 2 ∨ j = 3 ∨ j = 4 ∨ j = 5 by omega) with rfl | rfl | rfl | rfl | rfl | rfl
      · exact (hs (Jvm.Cond.eq (Jvm.Term.elem (Jvm.Term.field (Jvm.Term.string "CoinsAreDoves$Text" (93 : Nat)) "java/lang/String" "value" "[B") (Jvm.Term.int (0 : Int32))) (Jvm.Term.int (100 : Int32))) (List.mem_of_getElem? (i := 55) (by decide +kernel)))
      · exact (hs (Jvm.Cond.eq (Jvm.Term.elem (Jvm.Term.field (Jvm.Term.string "CoinsAreDoves$Text" (93 : Nat)) "java/lang/String" "value" "[B") (Jvm.Term.int (1 : Int32))) (Jvm.Term.int (111 : Int32))) (List.mem_of_getElem? (i := 56) (by decide +kernel)))
      · exact (hs (Jvm.Cond.eq (Jvm.Term.elem (Jvm.Term.field (Jvm.Term.string "CoinsAreDoves$Text" (93 : Nat)) "java/lang/String" "value" "[B") (Jvm.Term.int (2 : Int32))) (Jvm.Term.int (121 : Int32))) (List.mem_of_getElem? (i := 57) (by decide +kernel)))
      · exact (hs (Jvm.Cond.eq (Jvm.Term.elem (Jvm.Term.field (Jvm.Term.string "CoinsAreDoves$Text" (93 : Nat)) "java/lang/String" "value" "[B") (Jvm.Term.int (3 : Int32))) (Jvm.Term.int (115 : Int32))) (List.mem_of_getElem? (i := 58) (by decide +kernel)))
      · exact (hs (Jvm.Cond.eq (Jvm.Term.elem (Jvm.Term.field (Jvm.Term.string "CoinsAreDoves$Text" (93 : Nat)) "java/lang/String" "value" "[B") (Jvm.Term.int (4 : Int32))) (Jvm.Term.int (98 : Int32))) (List.mem_of_getElem? (i := 59) (by decide +kernel)))
      · exact (hs (Jvm.Cond.eq (Jvm.Term.elem (Jvm.Term.field (Jvm.Term.string "CoinsAreDoves$Text" (93 : Nat)) "java/lang/String" "value" "[B") (Jvm.Term.int (5 : Int32))) (Jvm.Term.int (116 : Int32))) (List.mem_of_getElem? (i := 60) (by decide +kernel)))
  have hne : ∀ i j : Nat, i < 6 → j < 6 → i ≠ j → (Cond.not (Cond.eq (Jvm.Term.string RX5 (ixJ.getD i 0)) (Jvm.Term.string RX5 (ixJ.getD j 0)))).before #[Value.ref b] s = true ∨ (Cond.not (Cond.eq (Jvm.Term.string RX5 (ixJ.getD j 0)) (Jvm.Term.string RX5 (ixJ.getD i 0)))).before #[Value.ref b] s = true := by
    have H : ∀ i j : Nat, j < 6 → i < j → (Cond.not (Cond.eq (Jvm.Term.string RX5 (ixJ.getD i 0)) (Jvm.Term.string RX5 (ixJ.getD j 0)))).before #[Value.ref b] s = true := by
      intro i j hj hij
      rcases (show (i = 0 ∧ j = 1) ∨ (i = 0 ∧ j = 2) ∨ (i = 1 ∧ j = 2) ∨ (i = 0 ∧ j = 3) ∨ (i = 1 ∧ j = 3) ∨ (i = 2 ∧ j = 3) ∨ (i = 0 ∧ j = 4) ∨ (i = 1 ∧ j = 4) ∨ (i = 2 ∧ j = 4) ∨ (i = 3 ∧ j = 4) ∨ (i = 0 ∧ j = 5) ∨ (i = 1 ∧ j = 5) ∨ (i = 2 ∧ j = 5) ∨ (i = 3 ∧ j = 5) ∨ (i = 4 ∧ j = 5) by omega) with ⟨rfl, rfl⟩ | ⟨rfl, rfl⟩ | ⟨rfl, rfl⟩ | ⟨rfl, rfl⟩ | ⟨rfl, rfl⟩ | ⟨rfl, rfl⟩ | ⟨rfl, rfl⟩ | ⟨rfl, rfl⟩ | ⟨rfl, rfl⟩ | ⟨rfl, rfl⟩ | ⟨rfl, rfl⟩ | ⟨rfl, rfl⟩ | ⟨rfl, rfl⟩ | ⟨rfl, rfl⟩ | ⟨rfl, rfl⟩
      · exact (hs (Jvm.Cond.not (Jvm.Cond.eq (Jvm.Term.string "CoinsAreDoves$Text" (54 : Nat)) (Jvm.Term.string "CoinsAreDoves$Text" (56 : Nat)))) (List.mem_of_getElem? (i := 24) (by decide +kernel)))
      · exact (hs (Jvm.Cond.not (Jvm.Cond.eq (Jvm.Term.string "CoinsAreDoves$Text" (54 : Nat)) (Jvm.Term.string "CoinsAreDoves$Text" (58 : Nat)))) (List.mem_of_getElem? (i := 31) (by decide +kernel)))
      · exact (hs (Jvm.Cond.not (Jvm.Cond.eq (Jvm.Term.string "CoinsAreDoves$Text" (56 : Nat)) (Jvm.Term.string "CoinsAreDoves$Text" (58 : Nat)))) (List.mem_of_getElem? (i := 32) (by decide +kernel)))
      · exact (hs (Jvm.Cond.not (Jvm.Cond.eq (Jvm.Term.string "CoinsAreDoves$Text" (54 : Nat)) (Jvm.Term.string "CoinsAreDoves$Text" (60 : Nat)))) (List.mem_of_getElem? (i := 40) (by decide +kernel)))
      · exact (hs (Jvm.Cond.not (Jvm.Cond.eq (Jvm.Term.string "CoinsAreDoves$Text" (56 : Nat)) (Jvm.Term.string "CoinsAreDoves$Text" (60 : Nat)))) (List.mem_of_getElem? (i := 41) (by decide +kernel)))
      · exact (hs (Jvm.Cond.not (Jvm.Cond.eq (Jvm.Term.string "CoinsAreDoves$Text" (58 : Nat)) (Jvm.Term.string "CoinsAreDoves$Text" (60 : Nat)))) (List.mem_of_getElem? (i := 42) (by decide +kernel)))
      · exact (hs (Jvm.Cond.not (Jvm.Cond.eq (Jvm.Term.string "CoinsAreDoves$Text" (54 : Nat)) (Jvm.Term.string "CoinsAreDoves$Text" (62 : Nat)))) (List.mem_of_getElem? (i := 47) (by decide +kernel)))
      · exact (hs (Jvm.Cond.not (Jvm.Cond.eq (Jvm.Term.string "CoinsAreDoves$Text" (56 : Nat)) (Jvm.Term.string "CoinsAreDoves$Text" (62 : Nat)))) (List.mem_of_getElem? (i := 48) (by decide +kernel)))
      · exact (hs (Jvm.Cond.not (Jvm.Cond.eq (Jvm.Term.string "CoinsAreDoves$Text" (58 : Nat)) (Jvm.Term.string "CoinsAreDoves$Text" (62 : Nat)))) (List.mem_of_getElem? (i := 49) (by decide +kernel)))
      · exact (hs (Jvm.Cond.not (Jvm.Cond.eq (Jvm.Term.string "CoinsAreDoves$Text" (60 : Nat)) (Jvm.Term.string "CoinsAreDoves$Text" (62 : Nat)))) (List.mem_of_getElem? (i := 50) (by decide +kernel)))
      · exact (hs (Jvm.Cond.not (Jvm.Cond.eq (Jvm.Term.string "CoinsAreDoves$Text" (54 : Nat)) (Jvm.Term.string "CoinsAreDoves$Text" (93 : Nat)))) (List.mem_of_getElem? (i := 61) (by decide +kernel)))
      · exact (hs (Jvm.Cond.not (Jvm.Cond.eq (Jvm.Term.string "CoinsAreDoves$Text" (56 : Nat)) (Jvm.Term.string "CoinsAreDoves$Text" (93 : Nat)))) (List.mem_of_getElem? (i := 62) (by decide +kernel)))
      · exact (hs (Jvm.Cond.not (Jvm.Cond.eq (Jvm.Term.string "CoinsAreDoves$Text" (58 : Nat)) (Jvm.Term.string "CoinsAreDoves$Text" (93 : Nat)))) (List.mem_of_getElem? (i := 63) (by decide +kernel)))
      · exact (hs (Jvm.Cond.not (Jvm.Cond.eq (Jvm.Term.string "CoinsAreDoves$Text" (60 : Nat)) (Jvm.Term.string "CoinsAreDoves$Text" (93 : Nat)))) (List.mem_of_getElem? (i := 64) (by decide +kernel)))
      · exact (hs (Jvm.Cond.not (Jvm.Cond.eq (Jvm.Term.string "CoinsAreDoves$Text" (62 : Nat)) (Jvm.Term.string "CoinsAreDoves$Text" (93 : Nat)))) (List.mem_of_getElem? (i := 65) (by decide +kernel)))
    intro i j hi hj hij
    rcases Nat.lt_or_gt_of_ne hij with h | h
    · exact Or.inl (H i j hj h)
    · exact Or.inr (H j i hi h)
  obtain ⟨adK, adV, h1, h2⟩ := vk_Sof (args := #[Value.ref b]) (N := 6) (tm := fun i => Jvm.Term.string RX5 (ixJ.getD i 0)) (len := lenJ) (byt := bytJ) (A := fun q : Nat => s.heap.size ≤ q) hN hex hco har hle hel hne hA
  refine ⟨adK, adV, fun D c1 c2 => ⟨h1, ?_, ?_, ?_, ?_, ?_⟩⟩
  · intro i q hi
    match i, hi with
    | 0, hi => cases hi; exact vk_R.of (hts ((Jvm.Cond.stringRef "CoinsAreDoves$Text" (54 : Nat) "99;")) (List.mem_of_getElem? (i := 273) (by decide +kernel))) (h2 0 (by decide))
    | 1, hi => cases hi; exact vk_R.of (hts ((Jvm.Cond.stringRef "CoinsAreDoves$Text" (56 : Nat) "k99;")) (List.mem_of_getElem? (i := 274) (by decide +kernel))) (h2 1 (by decide))
    | 2, hi => cases hi; exact vk_R.of (hts ((Jvm.Cond.stringRef "CoinsAreDoves$Text" (58 : Nat) "9;")) (List.mem_of_getElem? (i := 275) (by decide +kernel))) (h2 2 (by decide))
    | 3, hi => cases hi; exact vk_R.of (hts ((Jvm.Cond.stringRef "CoinsAreDoves$Text" (60 : Nat) "9?;")) (List.mem_of_getElem? (i := 276) (by decide +kernel))) (h2 3 (by decide))
    | 4, hi => cases hi; exact vk_R.of (hts ((Jvm.Cond.stringRef "CoinsAreDoves$Text" (62 : Nat) "")) (List.mem_of_getElem? (i := 277) (by decide +kernel))) (h2 4 (by decide))
    | 5, hi => cases hi; exact vk_R.of (hts ((Jvm.Cond.stringRef "CoinsAreDoves$Text" (93 : Nat) "doysbt")) (List.mem_of_getElem? (i := 339) (by decide +kernel))) (h2 5 (by decide))
    | k + 6, hi => simp [litJ] at hi
  · exact va_Zof (args := #[Value.ref b]) (hts (Jvm.Cond.laysStatic "java/lang/String" "COMPACT_STRINGS" "Z") (List.mem_of_getElem? (i := 291) (by decide +kernel))) (hts (Jvm.Cond.initialized "java/lang/String") (List.mem_of_getElem? (i := 67) (by decide +kernel))) (va_eqt (hs (Jvm.Cond.eq (Jvm.Term.static "java/lang/String" "COMPACT_STRINGS" "Z") (Jvm.Term.int (1 : Int32))) (List.mem_of_getElem? (i := 4) (by decide +kernel)))) hA
  · exact va_Zqof (args := #[Value.ref b]) (hts (Jvm.Cond.laysStatic "jdk/internal/util/Preconditions" "SIOOBE_FORMATTER" "Ljava/util/function/BiFunction;") (List.mem_of_getElem? (i := 307) (by decide +kernel))) (hts (Jvm.Cond.initialized "jdk/internal/util/Preconditions") (List.mem_of_getElem? (i := 69) (by decide +kernel))) (hs (Jvm.Cond.isRef (Jvm.Term.static "jdk/internal/util/Preconditions" "SIOOBE_FORMATTER" "Ljava/util/function/BiFunction;")) (List.mem_of_getElem? (i := 5) (by decide +kernel))) hA
  · intro w hw
    exact va_Nw.of (nest_tab (List.mem_filter.mp hw).2) (hts w (List.mem_filter.mp hw).1)
  · exact va_AO.of (hts (Jvm.Cond.arrayOver (Jvm.ClassFile.FieldType.object "CoinsAreDoves$Dove")) (List.mem_of_getElem? (i := 90) (by decide +kernel)))
set_option maxRecDepth 100000 in
set_option maxHeartbeats 4000000 in
theorem kn_start {s : State} {b : Nat} (hts : ∀ w ∈ lw_tbl, w.before #[Value.ref b] s = true) : ∃ (dC : Nat → ClassId) (dI : Nat → Nat → Nat), ∀ (k : Nat) (q : vw_C), vwCl[k]? = some q → u_Kn s q.1 q.2.1 q.2.2 (dC k) (dI k) := by
  have h : ∀ k : Nat, ∃ p : ClassId × (Nat → Nat), ∀ q : vw_C, vwCl[k]? = some q → u_Kn s q.1 q.2.1 q.2.2 p.1 p.2 := by
    intro k
    match k with
    | 0 =>
      obtain ⟨c, iS, hc⟩ := u_known (C := RX0) (T := TX0) (N := 0) (n := 0) hts inl_X0 (hts (Jvm.Cond.instantiable "CoinsAreDoves$Breeder" (0 : Nat)) (List.mem_of_getElem? (i := 119) (by decide +kernel)))
      exact ⟨(c, iS), fun q hq => by cases hq; exact hc⟩
    | 1 =>
      obtain ⟨c, iS, hc⟩ := u_known (C := RX1) (T := TX1) (N := 0) (n := 0) hts inl_X1 (hts (Jvm.Cond.instantiable "CoinsAreDoves$Dove" (0 : Nat)) (List.mem_of_getElem? (i := 91) (by decide +kernel)))
      exact ⟨(c, iS), fun q hq => by cases hq; exact hc⟩
    | 2 =>
      obtain ⟨c, iS, hc⟩ := u_known (C := RX2) (T := TX2) (N := 0) (n := 0) hts inl_X2 (hts (Jvm.Cond.instantiable "CoinsAreDoves$Old" (0 : Nat)) (List.mem_of_getElem? (i := 98) (by decide +kernel)))
      exact ⟨(c, iS), fun q hq => by cases hq; exact hc⟩
    | 3 =>
      obtain ⟨c, iS, hc⟩ := u_known (C := RX3) (T := TX3) (N := 0) (n := 0) hts inl_X3 (hts (Jvm.Cond.instantiable "CoinsAreDoves$Stray" (0 : Nat)) (List.mem_of_getElem? (i := 112) (by decide +kernel)))
      exact ⟨(c, iS), fun q hq => by cases hq; exact hc⟩
    | 4 =>
      obtain ⟨c, iS, hc⟩ := u_known (C := RX4) (T := TX4) (N := 0) (n := 0) hts inl_X4 (hts (Jvm.Cond.instantiable "CoinsAreDoves$Tame" (0 : Nat)) (List.mem_of_getElem? (i := 126) (by decide +kernel)))
      exact ⟨(c, iS), fun q hq => by cases hq; exact hc⟩
    | 5 =>
      obtain ⟨c, iS, hc⟩ := u_known (C := RX5) (T := TX5) (N := 2) (n := 2) hts inl_X5 (hts (Jvm.Cond.instantiable "CoinsAreDoves$Text" (2 : Nat)) (List.mem_of_getElem? (i := 186) (by decide +kernel)))
      exact ⟨(c, iS), fun q hq => by cases hq; exact hc⟩
    | 6 =>
      obtain ⟨c, iS, hc⟩ := u_known (C := RX6) (T := TX6) (N := 13) (n := 13) hts inl_X6 (hts (Jvm.Cond.instantiable "CoinsAreDoves$Town" (13 : Nat)) (List.mem_of_getElem? (i := 84) (by decide +kernel)))
      exact ⟨(c, iS), fun q hq => by cases hq; exact hc⟩
    | 7 =>
      obtain ⟨c, iS, hc⟩ := u_known (C := RX7) (T := TX7) (N := 0) (n := 0) hts inl_X7 (hts (Jvm.Cond.instantiable "CoinsAreDoves$Young" (0 : Nat)) (List.mem_of_getElem? (i := 105) (by decide +kernel)))
      exact ⟨(c, iS), fun q hq => by cases hq; exact hc⟩
    | 8 =>
      obtain ⟨c, iS, hc⟩ := u_known (C := RX8) (T := TX8) (N := 10) (n := 10) hts inl_X8 (hts (Jvm.Cond.instantiable "CoinsAreDoves" (10 : Nat)) (List.mem_of_getElem? (i := 76) (by decide +kernel)))
      exact ⟨(c, iS), fun q hq => by cases hq; exact hc⟩
    | 9 =>
      obtain ⟨c, iS, hc⟩ := u_known (C := RX9) (T := TX9) (N := 12) (n := 12) hts inl_X9 (hts (Jvm.Cond.instantiable "CoinsAreDovesModel" (12 : Nat)) (List.mem_of_getElem? (i := 792) (by decide +kernel)))
      exact ⟨(c, iS), fun q hq => by cases hq; exact hc⟩
    | k + 10 => exact ⟨((0 : Nat), fun _ => 0), fun q hq => by simp [vwCl] at hq⟩
  obtain ⟨f, hf⟩ := Classical.axiomOfChoice h
  exact ⟨fun k => (f k).1, fun k => (f k).2, hf⟩
set_option maxRecDepth 100000 in
set_option maxHeartbeats 4000000 in
theorem lw_body {K : KT} {l : Launch} {G : GT} {b0 L : Nat} {xs : Nat → Int32} (C : Cf (kat K 0 0) l G cL_law RL (some .boolean) room_1) (hA : ∀ q, (ks K).heap.size ≤ q → kA K q) (hX : va_X b0 L xs (ks K) (ks K).heap) (hbl : b0 < (ks K).heap.size) (hbA : ¬ kA K b0) (hL : L ≤ 2560) (ex : ∀ (a b : Nat → Nat) (X M P S R T : Tn) (i : Int), Wc (kat K 61 640) G 940 [some (.ref b0), some (.ref (a 0)), some (.ref (b 0)), some (.int (iI i))] [] (wW G a b X T M P S R T)) : Wc (kat K 0 0) G 0 [some (.ref b0), none, none, none] [] [] := by
  refine r_new (pc := 0) (n' := 1) (t' := 10) (fs := [.null, .null, .null, .null, .null, .null, .null, .null, .int (iI 0), .int (iI 0)]) (ci := 8) C hA dL_law_0 in_X8 tyX8_ok tx_19 tx_20 tw_1 rfl (fun j hj => by rcases (show j = 0 ∨ j = 1 ∨ j = 2 ∨ j = 3 ∨ j = 4 ∨ j = 5 ∨ j = 6 ∨ j = 7 ∨ j = 8 ∨ j = 9 by omega) with rfl | rfl | rfl | rfl | rfl | rfl | rfl | rfl | rfl | rfl <;> rfl) rfl rfl ⟨by decide, by decide⟩ (fun q0 => ?_)
  have C := Cf_kat C 1 10 (by decide) (by decide)
  show Wc (kat K 1 10) G 3 _ [.ref q0] [[(q0, .inr (8, [.null, .null, .null, .null, .null, .null, .null, .null, .int (iI 0), .int (iI 0)]))]]
  refine r_dup (pc := 3) C dL_law_3 rfl ?_
  refine r_mk (pc := 4) (n' := 52) (t' := 318) C hA YBX8_init tw_22 rfl dL_law_4 tw_21 (fun sz => m_X8 l G q0 sz) [] rfl rfl rfl ⟨by decide, by decide⟩ (Nat.le_of_ble_eq_true rfl) ⟨rfl, rfl, by decide, by decide⟩ (fun g hg => ?_)
  have C := Cf_kat C 52 318 (by decide) (by decide)
  obtain ⟨a, rfl, rfl⟩ := hg
  show Wc (kat K 52 318) G 7 _ [.ref (a 0)] (wC G a Z0 T0 T0 T0 Z0)
  refine r_astore_n (pc := 7) C 1 dL_law_7 rfl (Nat.le_of_ble_eq_true rfl) ?_
  refine r_new (pc := 8) (n' := 53) (t' := 330) (fs := [.null, .null, .null, .null, .null, .int (iI 0), .null, .null, .int (iI 0), .int (iI 0), .null, .int (iI 0)]) (ci := 9) C hA dL_law_8 in_X9 tyX9_ok tx_735 tx_736 tw_10 rfl (fun j hj => by rcases (show j = 0 ∨ j = 1 ∨ j = 2 ∨ j = 3 ∨ j = 4 ∨ j = 5 ∨ j = 6 ∨ j = 7 ∨ j = 8 ∨ j = 9 ∨ j = 10 ∨ j = 11 by omega) with rfl | rfl | rfl | rfl | rfl | rfl | rfl | rfl | rfl | rfl | rfl | rfl <;> rfl) rfl rfl ⟨by decide, by decide⟩ (fun q8 => ?_)
  have C := Cf_kat C 53 330 (by decide) (by decide)
  show Wc (kat K 53 330) G 11 _ [.ref q8] (wC G a Z0 T0 T0 T0 Z0 ++ [[(q8, .inr (9, [.null, .null, .null, .null, .null, .int (iI 0), .null, .null, .int (iI 0), .int (iI 0), .null, .int (iI 0)]))]])
  refine r_dup (pc := 11) C dL_law_11 rfl ?_
  refine r_mk (pc := 12) (n' := 61) (t' := 640) C hA YBX9_init tw_738 rfl dL_law_12 tw_737 (fun sz => m_X9 l G q8 sz) (wC G a Z0 T0 T0 T0 Z0) rfl rfl rfl ⟨by decide, by decide⟩ (Nat.le_of_ble_eq_true rfl) ⟨rfl, rfl, by decide, by decide⟩ (fun g hg => ?_)
  have C := Cf_kat C 61 640 (by decide) (by decide)
  obtain ⟨b, rfl, rfl⟩ := hg
  show Wc (kat K 61 640) G 15 _ [.ref (b 0)] (wW G a b Z0 T0 T0 T0 Z0 Z0 T0)
  refine r_astore_n (pc := 15) C 2 dL_law_15 rfl (Nat.le_of_ble_eq_true rfl) ?_
  refine r_iconst (pc := 16) C dL_law_16 ?_
  refine r_istore_n (pc := 17) C 3 dL_law_17 rfl (Nat.le_of_ble_eq_true rfl) ?_
  show Wc (kat K 61 640) G 18 [some (.ref b0), some (.ref (a 0)), some (.ref (b 0)), some (.int (iI 0))] [] (wW G a b Z0 T0 T0 T0 Z0 Z0 T0)
  exact lw_loop C hX hbl hbA hL (ex a b) (L + 1) 0 Z0 T0 T0 Z0 Z0 T0 (by omega) (by omega) (by omega) rl_0

