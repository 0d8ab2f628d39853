section
/-- a private method of a class that the tables say can be made, by its rows of tables_1 -/
def lw_okq (q : MethodName × Nat) : Prop := (q.1.cls ≠ "java/lang/invoke/MethodHandle" ∧ q.1.cls ≠ "java/lang/invoke/VarHandle") ∧ Cond.instantiable q.1.cls q.2 ∈ tables_1 ∧ Cond.privateMethod q.1 ∈ tables_1 ∧ Cond.instanceMethod q.1 ∈ tables_1
theorem lw_p0 : lw_okq (⟨"CoinsAreDoves", "refuse", "(I)I"⟩, 10) := ⟨⟨by decide +kernel, by decide +kernel⟩, List.mem_of_getElem? (i := 20) (by decide +kernel), List.mem_of_getElem? (i := 186) (by decide +kernel), List.mem_of_getElem? (i := 187) (by decide +kernel)⟩
theorem lw_p1 : lw_okq (⟨"CoinsAreDoves", "textBecomesTown", "()I"⟩, 10) := ⟨⟨by decide +kernel, by decide +kernel⟩, List.mem_of_getElem? (i := 20) (by decide +kernel), List.mem_of_getElem? (i := 199) (by decide +kernel), List.mem_of_getElem? (i := 200) (by decide +kernel)⟩
theorem lw_p2 : lw_okq (⟨"CoinsAreDoves$Text", "endOfStatement", "(I)I"⟩, 2) := ⟨⟨by decide +kernel, by decide +kernel⟩, List.mem_of_getElem? (i := 130) (by decide +kernel), List.mem_of_getElem? (i := 207) (by decide +kernel), List.mem_of_getElem? (i := 208) (by decide +kernel)⟩
theorem lw_p3 : lw_okq (⟨"CoinsAreDoves$Text", "signAt", "(I)I"⟩, 2) := ⟨⟨by decide +kernel, by decide +kernel⟩, List.mem_of_getElem? (i := 130) (by decide +kernel), List.mem_of_getElem? (i := 211) (by decide +kernel), List.mem_of_getElem? (i := 212) (by decide +kernel)⟩
theorem lw_p4 : lw_okq (⟨"CoinsAreDoves$Text", "tell", "(LCoinsAreDoves$Town;I)Z"⟩, 2) := ⟨⟨by decide +kernel, by decide +kernel⟩, List.mem_of_getElem? (i := 130) (by decide +kernel), List.mem_of_getElem? (i := 355) (by decide +kernel), List.mem_of_getElem? (i := 356) (by decide +kernel)⟩
theorem lw_p5 : lw_okq (⟨"CoinsAreDoves$Text", "digitAt", "(I)I"⟩, 2) := ⟨⟨by decide +kernel, by decide +kernel⟩, List.mem_of_getElem? (i := 130) (by decide +kernel), List.mem_of_getElem? (i := 359) (by decide +kernel), List.mem_of_getElem? (i := 360) (by decide +kernel)⟩
theorem lw_p6 : lw_okq (⟨"CoinsAreDoves$Text", "numberAt", "(I)I"⟩, 2) := ⟨⟨by decide +kernel, by decide +kernel⟩, List.mem_of_getElem? (i := 130) (by decide +kernel), List.mem_of_getElem? (i := 379) (by decide +kernel), List.mem_of_getElem? (i := 380) (by decide +kernel)⟩
theorem lw_p7 : lw_okq (⟨"CoinsAreDoves$Town", "kindOf", "(I)LCoinsAreDoves$Dove;"⟩, 13) := ⟨⟨by decide +kernel, by decide +kernel⟩, List.mem_of_getElem? (i := 28) (by decide +kernel), List.mem_of_getElem? (i := 428) (by decide +kernel), List.mem_of_getElem? (i := 429) (by decide +kernel)⟩
theorem lw_p8 : lw_okq (⟨"CoinsAreDoves$Town", "flyAtDusk", "()I"⟩, 13) := ⟨⟨by decide +kernel, by decide +kernel⟩, List.mem_of_getElem? (i := 28) (by decide +kernel), List.mem_of_getElem? (i := 548) (by decide +kernel), List.mem_of_getElem? (i := 549) (by decide +kernel)⟩
theorem lw_p9 : lw_okq (⟨"CoinsAreDoves$Town", "mayFly", "(I)Z"⟩, 13) := ⟨⟨by decide +kernel, by decide +kernel⟩, List.mem_of_getElem? (i := 28) (by decide +kernel), List.mem_of_getElem? (i := 552) (by decide +kernel), List.mem_of_getElem? (i := 553) (by decide +kernel)⟩
theorem lw_p10 : lw_okq (⟨"CoinsAreDoves$Town", "wingsGrow", "()V"⟩, 13) := ⟨⟨by decide +kernel, by decide +kernel⟩, List.mem_of_getElem? (i := 28) (by decide +kernel), List.mem_of_getElem? (i := 557) (by decide +kernel), List.mem_of_getElem? (i := 558) (by decide +kernel)⟩
theorem lw_p11 : lw_okq (⟨"CoinsAreDoves$Town", "layEggs", "()V"⟩, 13) := ⟨⟨by decide +kernel, by decide +kernel⟩, List.mem_of_getElem? (i := 28) (by decide +kernel), List.mem_of_getElem? (i := 561) (by decide +kernel), List.mem_of_getElem? (i := 562) (by decide +kernel)⟩
theorem lw_p12 : lw_okq (⟨"CoinsAreDoves$Town", "growOlder", "(I)V"⟩, 13) := ⟨⟨by decide +kernel, by decide +kernel⟩, List.mem_of_getElem? (i := 28) (by decide +kernel), List.mem_of_getElem? (i := 582) (by decide +kernel), List.mem_of_getElem? (i := 583) (by decide +kernel)⟩
theorem lw_p13 : lw_okq (⟨"CoinsAreDoves", "gainByCarrying", "(III)V"⟩, 10) := ⟨⟨by decide +kernel, by decide +kernel⟩, List.mem_of_getElem? (i := 20) (by decide +kernel), List.mem_of_getElem? (i := 616) (by decide +kernel), List.mem_of_getElem? (i := 617) (by decide +kernel)⟩
theorem lw_p14 : lw_okq (⟨"CoinsAreDoves", "sumOfGains", "(I)I"⟩, 10) := ⟨⟨by decide +kernel, by decide +kernel⟩, List.mem_of_getElem? (i := 20) (by decide +kernel), List.mem_of_getElem? (i := 621) (by decide +kernel), List.mem_of_getElem? (i := 622) (by decide +kernel)⟩
theorem lw_p15 : lw_okq (⟨"CoinsAreDoves", "cheapestSet", "(II)I"⟩, 10) := ⟨⟨by decide +kernel, by decide +kernel⟩, List.mem_of_getElem? (i := 20) (by decide +kernel), List.mem_of_getElem? (i := 630) (by decide +kernel), List.mem_of_getElem? (i := 631) (by decide +kernel)⟩
def lw_privs_1 : List (MethodName × Nat) := [(⟨"CoinsAreDoves", "refuse", "(I)I"⟩, 10), (⟨"CoinsAreDoves", "textBecomesTown", "()I"⟩, 10), (⟨"CoinsAreDoves$Text", "endOfStatement", "(I)I"⟩, 2), (⟨"CoinsAreDoves$Text", "signAt", "(I)I"⟩, 2), (⟨"CoinsAreDoves$Text", "tell", "(LCoinsAreDoves$Town;I)Z"⟩, 2), (⟨"CoinsAreDoves$Text", "digitAt", "(I)I"⟩, 2), (⟨"CoinsAreDoves$Text", "numberAt", "(I)I"⟩, 2), (⟨"CoinsAreDoves$Town", "kindOf", "(I)LCoinsAreDoves$Dove;"⟩, 13), (⟨"CoinsAreDoves$Town", "flyAtDusk", "()I"⟩, 13), (⟨"CoinsAreDoves$Town", "mayFly", "(I)Z"⟩, 13), (⟨"CoinsAreDoves$Town", "wingsGrow", "()V"⟩, 13), (⟨"CoinsAreDoves$Town", "layEggs", "()V"⟩, 13), (⟨"CoinsAreDoves$Town", "growOlder", "(I)V"⟩, 13), (⟨"CoinsAreDoves", "gainByCarrying", "(III)V"⟩, 10), (⟨"CoinsAreDoves", "sumOfGains", "(I)I"⟩, 10), (⟨"CoinsAreDoves", "cheapestSet", "(II)I"⟩, 10)]
theorem lw_r1 : ∀ q ∈ lw_privs_1, lw_okq q := List.forall_mem_cons.mpr ⟨lw_p0, List.forall_mem_cons.mpr ⟨lw_p1, List.forall_mem_cons.mpr ⟨lw_p2, List.forall_mem_cons.mpr ⟨lw_p3, List.forall_mem_cons.mpr ⟨lw_p4, List.forall_mem_cons.mpr ⟨lw_p5, List.forall_mem_cons.mpr ⟨lw_p6, List.forall_mem_cons.mpr ⟨lw_p7, List.forall_mem_cons.mpr ⟨lw_p8, List.forall_mem_cons.mpr ⟨lw_p9, List.forall_mem_cons.mpr ⟨lw_p10, List.forall_mem_cons.mpr ⟨lw_p11, List.forall_mem_cons.mpr ⟨lw_p12, List.forall_mem_cons.mpr ⟨lw_p13, List.forall_mem_cons.mpr ⟨lw_p14, List.forall_mem_cons.mpr ⟨lw_p15, fun _ h => absurd h List.not_mem_nil⟩⟩⟩⟩⟩⟩⟩⟩⟩⟩⟩⟩⟩⟩⟩⟩
theorem lw_p16 : lw_okq (⟨"CoinsAreDoves", "joinLofts", "(I)V"⟩, 10) := ⟨⟨by decide +kernel, by decide +kernel⟩, List.mem_of_getElem? (i := 20) (by decide +kernel), List.mem_of_getElem? (i := 639) (by decide +kernel), List.mem_of_getElem? (i := 640) (by decide +kernel)⟩
theorem lw_p17 : lw_okq (⟨"CoinsAreDoves", "takeLeastLeader", "(II)V"⟩, 10) := ⟨⟨by decide +kernel, by decide +kernel⟩, List.mem_of_getElem? (i := 20) (by decide +kernel), List.mem_of_getElem? (i := 643) (by decide +kernel), List.mem_of_getElem? (i := 644) (by decide +kernel)⟩
theorem lw_p18 : lw_okq (⟨"CoinsAreDoves", "purses", "()I"⟩, 10) := ⟨⟨by decide +kernel, by decide +kernel⟩, List.mem_of_getElem? (i := 20) (by decide +kernel), List.mem_of_getElem? (i := 647) (by decide +kernel), List.mem_of_getElem? (i := 648) (by decide +kernel)⟩
theorem lw_p19 : lw_okq (⟨"CoinsAreDoves", "richest", "()I"⟩, 10) := ⟨⟨by decide +kernel, by decide +kernel⟩, List.mem_of_getElem? (i := 20) (by decide +kernel), List.mem_of_getElem? (i := 651) (by decide +kernel), List.mem_of_getElem? (i := 652) (by decide +kernel)⟩
theorem lw_p20 : lw_okq (⟨"CoinsAreDoves", "sumLedBy", "(I)I"⟩, 10) := ⟨⟨by decide +kernel, by decide +kernel⟩, List.mem_of_getElem? (i := 20) (by decide +kernel), List.mem_of_getElem? (i := 655) (by decide +kernel), List.mem_of_getElem? (i := 656) (by decide +kernel)⟩
theorem lw_p21 : lw_okq (⟨"CoinsAreDoves", "makesRowTrue", "(II)Z"⟩, 10) := ⟨⟨by decide +kernel, by decide +kernel⟩, List.mem_of_getElem? (i := 20) (by decide +kernel), List.mem_of_getElem? (i := 688) (by decide +kernel), List.mem_of_getElem? (i := 689) (by decide +kernel)⟩
theorem lw_p22 : lw_okq (⟨"CoinsAreDoves", "sameAsRow", "(LCoinsAreDoves$Town;I)I"⟩, 10) := ⟨⟨by decide +kernel, by decide +kernel⟩, List.mem_of_getElem? (i := 20) (by decide +kernel), List.mem_of_getElem? (i := 692) (by decide +kernel), List.mem_of_getElem? (i := 693) (by decide +kernel)⟩
theorem lw_p23 : lw_okq (⟨"CoinsAreDoves", "refusalsCounted", "(I)I"⟩, 10) := ⟨⟨by decide +kernel, by decide +kernel⟩, List.mem_of_getElem? (i := 20) (by decide +kernel), List.mem_of_getElem? (i := 732) (by decide +kernel), List.mem_of_getElem? (i := 733) (by decide +kernel)⟩
theorem lw_p24 : lw_okq (⟨"CoinsAreDovesModel", "refuse", "(I)I"⟩, 12) := ⟨⟨by decide +kernel, by decide +kernel⟩, List.mem_of_getElem? (i := 736) (by decide +kernel), List.mem_of_getElem? (i := 786) (by decide +kernel), List.mem_of_getElem? (i := 787) (by decide +kernel)⟩
theorem lw_p25 : lw_okq (⟨"CoinsAreDovesModel", "reads", "()I"⟩, 12) := ⟨⟨by decide +kernel, by decide +kernel⟩, List.mem_of_getElem? (i := 736) (by decide +kernel), List.mem_of_getElem? (i := 794) (by decide +kernel), List.mem_of_getElem? (i := 795) (by decide +kernel)⟩
theorem lw_p26 : lw_okq (⟨"CoinsAreDovesModel", "readsStatement", "()Z"⟩, 12) := ⟨⟨by decide +kernel, by decide +kernel⟩, List.mem_of_getElem? (i := 736) (by decide +kernel), List.mem_of_getElem? (i := 798) (by decide +kernel), List.mem_of_getElem? (i := 799) (by decide +kernel)⟩
theorem lw_p27 : lw_okq (⟨"CoinsAreDovesModel", "sign", "()I"⟩, 12) := ⟨⟨by decide +kernel, by decide +kernel⟩, List.mem_of_getElem? (i := 736) (by decide +kernel), List.mem_of_getElem? (i := 802) (by decide +kernel), List.mem_of_getElem? (i := 803) (by decide +kernel)⟩
theorem lw_p28 : lw_okq (⟨"CoinsAreDovesModel", "readsNumber", "(II)Z"⟩, 12) := ⟨⟨by decide +kernel, by decide +kernel⟩, List.mem_of_getElem? (i := 736) (by decide +kernel), List.mem_of_getElem? (i := 806) (by decide +kernel), List.mem_of_getElem? (i := 807) (by decide +kernel)⟩
theorem lw_p29 : lw_okq (⟨"CoinsAreDovesModel", "readsKind", "()Z"⟩, 12) := ⟨⟨by decide +kernel, by decide +kernel⟩, List.mem_of_getElem? (i := 736) (by decide +kernel), List.mem_of_getElem? (i := 813) (by decide +kernel), List.mem_of_getElem? (i := 814) (by decide +kernel)⟩
theorem lw_p30 : lw_okq (⟨"CoinsAreDovesModel", "takes", "(I)Z"⟩, 12) := ⟨⟨by decide +kernel, by decide +kernel⟩, List.mem_of_getElem? (i := 736) (by decide +kernel), List.mem_of_getElem? (i := 820) (by decide +kernel), List.mem_of_getElem? (i := 821) (by decide +kernel)⟩
theorem lw_p31 : lw_okq (⟨"CoinsAreDovesModel", "comes", "(I)Z"⟩, 12) := ⟨⟨by decide +kernel, by decide +kernel⟩, List.mem_of_getElem? (i := 736) (by decide +kernel), List.mem_of_getElem? (i := 827) (by decide +kernel), List.mem_of_getElem? (i := 828) (by decide +kernel)⟩
def lw_privs_2 : List (MethodName × Nat) := [(⟨"CoinsAreDoves", "joinLofts", "(I)V"⟩, 10), (⟨"CoinsAreDoves", "takeLeastLeader", "(II)V"⟩, 10), (⟨"CoinsAreDoves", "purses", "()I"⟩, 10), (⟨"CoinsAreDoves", "richest", "()I"⟩, 10), (⟨"CoinsAreDoves", "sumLedBy", "(I)I"⟩, 10), (⟨"CoinsAreDoves", "makesRowTrue", "(II)Z"⟩, 10), (⟨"CoinsAreDoves", "sameAsRow", "(LCoinsAreDoves$Town;I)I"⟩, 10), (⟨"CoinsAreDoves", "refusalsCounted", "(I)I"⟩, 10), (⟨"CoinsAreDovesModel", "refuse", "(I)I"⟩, 12), (⟨"CoinsAreDovesModel", "reads", "()I"⟩, 12), (⟨"CoinsAreDovesModel", "readsStatement", "()Z"⟩, 12), (⟨"CoinsAreDovesModel", "sign", "()I"⟩, 12), (⟨"CoinsAreDovesModel", "readsNumber", "(II)Z"⟩, 12), (⟨"CoinsAreDovesModel", "readsKind", "()Z"⟩, 12), (⟨"CoinsAreDovesModel", "takes", "(I)Z"⟩, 12), (⟨"CoinsAreDovesModel", "comes", "(I)Z"⟩, 12)]
theorem lw_r2 : ∀ q ∈ lw_privs_2, lw_okq q := List.forall_mem_cons.mpr ⟨lw_p16, List.forall_mem_cons.mpr ⟨lw_p17, List.forall_mem_cons.mpr ⟨lw_p18, List.forall_mem_cons.mpr ⟨lw_p19, List.forall_mem_cons.mpr ⟨lw_p20, List.forall_mem_cons.mpr ⟨lw_p21, List.forall_mem_cons.mpr ⟨lw_p22, List.forall_mem_cons.mpr ⟨lw_p23, List.forall_mem_cons.mpr ⟨lw_p24, List.forall_mem_cons.mpr ⟨lw_p25, List.forall_mem_cons.mpr ⟨lw_p26, List.forall_mem_cons.mpr ⟨lw_p27, List.forall_mem_cons.mpr ⟨lw_p28, List.forall_mem_cons.mpr ⟨lw_p29, List.forall_mem_cons.mpr ⟨lw_p30, List.forall_mem_cons.mpr ⟨lw_p31, fun _ h => absurd h List.not_mem_nil⟩⟩⟩⟩⟩⟩⟩⟩⟩⟩⟩⟩⟩⟩⟩⟩
theorem lw_p32 : lw_okq (⟨"CoinsAreDovesModel", "isLoft", "(I)Z"⟩, 12) := ⟨⟨by decide +kernel, by decide +kernel⟩, List.mem_of_getElem? (i := 736) (by decide +kernel), List.mem_of_getElem? (i := 835) (by decide +kernel), List.mem_of_getElem? (i := 836) (by decide +kernel)⟩
theorem lw_p33 : lw_okq (⟨"CoinsAreDovesModel", "purseOf", "(I)I"⟩, 12) := ⟨⟨by decide +kernel, by decide +kernel⟩, List.mem_of_getElem? (i := 736) (by decide +kernel), List.mem_of_getElem? (i := 839) (by decide +kernel), List.mem_of_getElem? (i := 840) (by decide +kernel)⟩
theorem lw_p34 : lw_okq (⟨"CoinsAreDovesModel", "get", "(II)I"⟩, 12) := ⟨⟨by decide +kernel, by decide +kernel⟩, List.mem_of_getElem? (i := 736) (by decide +kernel), List.mem_of_getElem? (i := 843) (by decide +kernel), List.mem_of_getElem? (i := 844) (by decide +kernel)⟩
theorem lw_p35 : lw_okq (⟨"CoinsAreDovesModel", "valueOf", "(I)I"⟩, 12) := ⟨⟨by decide +kernel, by decide +kernel⟩, List.mem_of_getElem? (i := 736) (by decide +kernel), List.mem_of_getElem? (i := 847) (by decide +kernel), List.mem_of_getElem? (i := 848) (by decide +kernel)⟩
theorem lw_p36 : lw_okq (⟨"CoinsAreDovesModel", "ownOf", "(I)I"⟩, 12) := ⟨⟨by decide +kernel, by decide +kernel⟩, List.mem_of_getElem? (i := 736) (by decide +kernel), List.mem_of_getElem? (i := 851) (by decide +kernel), List.mem_of_getElem? (i := 852) (by decide +kernel)⟩
theorem lw_p37 : lw_okq (⟨"CoinsAreDovesModel", "isLost", "(I)Z"⟩, 12) := ⟨⟨by decide +kernel, by decide +kernel⟩, List.mem_of_getElem? (i := 736) (by decide +kernel), List.mem_of_getElem? (i := 855) (by decide +kernel), List.mem_of_getElem? (i := 856) (by decide +kernel)⟩
theorem lw_p38 : lw_okq (⟨"CoinsAreDovesModel", "isDove", "(I)Z"⟩, 12) := ⟨⟨by decide +kernel, by decide +kernel⟩, List.mem_of_getElem? (i := 736) (by decide +kernel), List.mem_of_getElem? (i := 863) (by decide +kernel), List.mem_of_getElem? (i := 864) (by decide +kernel)⟩
theorem lw_p39 : lw_okq (⟨"CoinsAreDovesModel", "flies", "(I)I"⟩, 12) := ⟨⟨by decide +kernel, by decide +kernel⟩, List.mem_of_getElem? (i := 736) (by decide +kernel), List.mem_of_getElem? (i := 867) (by decide +kernel), List.mem_of_getElem? (i := 868) (by decide +kernel)⟩
theorem lw_p40 : lw_okq (⟨"CoinsAreDovesModel", "wayOf", "(II)I"⟩, 12) := ⟨⟨by decide +kernel, by decide +kernel⟩, List.mem_of_getElem? (i := 736) (by decide +kernel), List.mem_of_getElem? (i := 871) (by decide +kernel), List.mem_of_getElem? (i := 872) (by decide +kernel)⟩
theorem lw_p41 : lw_okq (⟨"CoinsAreDovesModel", "nearestOther", "(I)I"⟩, 12) := ⟨⟨by decide +kernel, by decide +kernel⟩, List.mem_of_getElem? (i := 736) (by decide +kernel), List.mem_of_getElem? (i := 878) (by decide +kernel), List.mem_of_getElem? (i := 879) (by decide +kernel)⟩
theorem lw_p42 : lw_okq (⟨"CoinsAreDovesModel", "puts", "(III)V"⟩, 12) := ⟨⟨by decide +kernel, by decide +kernel⟩, List.mem_of_getElem? (i := 736) (by decide +kernel), List.mem_of_getElem? (i := 894) (by decide +kernel), List.mem_of_getElem? (i := 895) (by decide +kernel)⟩
theorem lw_p43 : lw_okq (⟨"CoinsAreDovesModel", "goesHome", "(II)V"⟩, 12) := ⟨⟨by decide +kernel, by decide +kernel⟩, List.mem_of_getElem? (i := 736) (by decide +kernel), List.mem_of_getElem? (i := 906) (by decide +kernel), List.mem_of_getElem? (i := 907) (by decide +kernel)⟩
theorem lw_p44 : lw_okq (⟨"CoinsAreDovesModel", "lostMany", "()I"⟩, 12) := ⟨⟨by decide +kernel, by decide +kernel⟩, List.mem_of_getElem? (i := 736) (by decide +kernel), List.mem_of_getElem? (i := 914) (by decide +kernel), List.mem_of_getElem? (i := 915) (by decide +kernel)⟩
theorem lw_p45 : lw_okq (⟨"CoinsAreDovesModel", "goes", "()V"⟩, 12) := ⟨⟨by decide +kernel, by decide +kernel⟩, List.mem_of_getElem? (i := 736) (by decide +kernel), List.mem_of_getElem? (i := 918) (by decide +kernel), List.mem_of_getElem? (i := 919) (by decide +kernel)⟩
theorem lw_p46 : lw_okq (⟨"CoinsAreDovesModel", "layEggs", "()V"⟩, 12) := ⟨⟨by decide +kernel, by decide +kernel⟩, List.mem_of_getElem? (i := 736) (by decide +kernel), List.mem_of_getElem? (i := 922) (by decide +kernel), List.mem_of_getElem? (i := 923) (by decide +kernel)⟩
theorem lw_p47 : lw_okq (⟨"CoinsAreDovesModel", "begins", "()V"⟩, 12) := ⟨⟨by decide +kernel, by decide +kernel⟩, List.mem_of_getElem? (i := 736) (by decide +kernel), List.mem_of_getElem? (i := 934) (by decide +kernel), List.mem_of_getElem? (i := 935) (by decide +kernel)⟩
def lw_privs_3 : List (MethodName × Nat) := [(⟨"CoinsAreDovesModel", "isLoft", "(I)Z"⟩, 12), (⟨"CoinsAreDovesModel", "purseOf", "(I)I"⟩, 12), (⟨"CoinsAreDovesModel", "get", "(II)I"⟩, 12), (⟨"CoinsAreDovesModel", "valueOf", "(I)I"⟩, 12), (⟨"CoinsAreDovesModel", "ownOf", "(I)I"⟩, 12), (⟨"CoinsAreDovesModel", "isLost", "(I)Z"⟩, 12), (⟨"CoinsAreDovesModel", "isDove", "(I)Z"⟩, 12), (⟨"CoinsAreDovesModel", "flies", "(I)I"⟩, 12), (⟨"CoinsAreDovesModel", "wayOf", "(II)I"⟩, 12), (⟨"CoinsAreDovesModel", "nearestOther", "(I)I"⟩, 12), (⟨"CoinsAreDovesModel", "puts", "(III)V"⟩, 12), (⟨"CoinsAreDovesModel", "goesHome", "(II)V"⟩, 12), (⟨"CoinsAreDovesModel", "lostMany", "()I"⟩, 12), (⟨"CoinsAreDovesModel", "goes", "()V"⟩, 12), (⟨"CoinsAreDovesModel", "layEggs", "()V"⟩, 12), (⟨"CoinsAreDovesModel", "begins", "()V"⟩, 12)]
theorem lw_r3 : ∀ q ∈ lw_privs_3, lw_okq q := List.forall_mem_cons.mpr ⟨lw_p32, List.forall_mem_cons.mpr ⟨lw_p33, List.forall_mem_cons.mpr ⟨lw_p34, List.forall_mem_cons.mpr ⟨lw_p35, List.forall_mem_cons.mpr ⟨lw_p36, List.forall_mem_cons.mpr ⟨lw_p37, List.forall_mem_cons.mpr ⟨lw_p38, List.forall_mem_cons.mpr ⟨lw_p39, List.forall_mem_cons.mpr ⟨lw_p40, List.forall_mem_cons.mpr ⟨lw_p41, List.forall_mem_cons.mpr ⟨lw_p42, List.forall_mem_cons.mpr ⟨lw_p43, List.forall_mem_cons.mpr ⟨lw_p44, List.forall_mem_cons.mpr ⟨lw_p45, List.forall_mem_cons.mpr ⟨lw_p46, List.forall_mem_cons.mpr ⟨lw_p47, fun _ h => absurd h List.not_mem_nil⟩⟩⟩⟩⟩⟩⟩⟩⟩⟩⟩⟩⟩⟩⟩⟩
theorem lw_p48 : lw_okq (⟨"CoinsAreDovesModel", "goesFor", "(I)V"⟩, 12) := ⟨⟨by decide +kernel, by decide +kernel⟩, List.mem_of_getElem? (i := 736) (by decide +kernel), List.mem_of_getElem? (i := 938) (by decide +kernel), List.mem_of_getElem? (i := 939) (by decide +kernel)⟩
theorem lw_p49 : lw_okq (⟨"CoinsAreDovesModel", "ends", "()V"⟩, 12) := ⟨⟨by decide +kernel, by decide +kernel⟩, List.mem_of_getElem? (i := 736) (by decide +kernel), List.mem_of_getElem? (i := 942) (by decide +kernel), List.mem_of_getElem? (i := 943) (by decide +kernel)⟩
theorem lw_p50 : lw_okq (⟨"CoinsAreDovesModel", "areDoves", "(I)Z"⟩, 12) := ⟨⟨by decide +kernel, by decide +kernel⟩, List.mem_of_getElem? (i := 736) (by decide +kernel), List.mem_of_getElem? (i := 955) (by decide +kernel), List.mem_of_getElem? (i := 956) (by decide +kernel)⟩
theorem lw_p51 : lw_okq (⟨"CoinsAreDovesModel", "staysOf", "(III)I"⟩, 12) := ⟨⟨by decide +kernel, by decide +kernel⟩, List.mem_of_getElem? (i := 736) (by decide +kernel), List.mem_of_getElem? (i := 959) (by decide +kernel), List.mem_of_getElem? (i := 960) (by decide +kernel)⟩
theorem lw_p52 : lw_okq (⟨"CoinsAreDovesModel", "areAllIn", "(II)Z"⟩, 12) := ⟨⟨by decide +kernel, by decide +kernel⟩, List.mem_of_getElem? (i := 736) (by decide +kernel), List.mem_of_getElem? (i := 967) (by decide +kernel), List.mem_of_getElem? (i := 968) (by decide +kernel)⟩
theorem lw_p53 : lw_okq (⟨"CoinsAreDovesModel", "worthNow", "(I)I"⟩, 12) := ⟨⟨by decide +kernel, by decide +kernel⟩, List.mem_of_getElem? (i := 736) (by decide +kernel), List.mem_of_getElem? (i := 971) (by decide +kernel), List.mem_of_getElem? (i := 972) (by decide +kernel)⟩
theorem lw_p54 : lw_okq (⟨"CoinsAreDovesModel", "oneWith", "(II)I"⟩, 12) := ⟨⟨by decide +kernel, by decide +kernel⟩, List.mem_of_getElem? (i := 736) (by decide +kernel), List.mem_of_getElem? (i := 979) (by decide +kernel), List.mem_of_getElem? (i := 980) (by decide +kernel)⟩
theorem lw_p55 : lw_okq (⟨"CoinsAreDovesModel", "isAsTold", "()Z"⟩, 12) := ⟨⟨by decide +kernel, by decide +kernel⟩, List.mem_of_getElem? (i := 736) (by decide +kernel), List.mem_of_getElem? (i := 1011) (by decide +kernel), List.mem_of_getElem? (i := 1012) (by decide +kernel)⟩
def lw_privs_4 : List (MethodName × Nat) := [(⟨"CoinsAreDovesModel", "goesFor", "(I)V"⟩, 12), (⟨"CoinsAreDovesModel", "ends", "()V"⟩, 12), (⟨"CoinsAreDovesModel", "areDoves", "(I)Z"⟩, 12), (⟨"CoinsAreDovesModel", "staysOf", "(III)I"⟩, 12), (⟨"CoinsAreDovesModel", "areAllIn", "(II)Z"⟩, 12), (⟨"CoinsAreDovesModel", "worthNow", "(I)I"⟩, 12), (⟨"CoinsAreDovesModel", "oneWith", "(II)I"⟩, 12), (⟨"CoinsAreDovesModel", "isAsTold", "()Z"⟩, 12)]
theorem lw_r4 : ∀ q ∈ lw_privs_4, lw_okq q := List.forall_mem_cons.mpr ⟨lw_p48, List.forall_mem_cons.mpr ⟨lw_p49, List.forall_mem_cons.mpr ⟨lw_p50, List.forall_mem_cons.mpr ⟨lw_p51, List.forall_mem_cons.mpr ⟨lw_p52, List.forall_mem_cons.mpr ⟨lw_p53, List.forall_mem_cons.mpr ⟨lw_p54, List.forall_mem_cons.mpr ⟨lw_p55, fun _ h => absurd h List.not_mem_nil⟩⟩⟩⟩⟩⟩⟩⟩
def lw_privs : List (MethodName × Nat) := lw_privs_1 ++ (lw_privs_2 ++ (lw_privs_3 ++ (lw_privs_4)))
def lw_tbl : List Cond := k2_sels lw_privs ++ tables_1
theorem lw_privs_ok : ∀ q ∈ lw_privs, lw_okq q := by
  show ∀ q ∈ lw_privs_1 ++ (lw_privs_2 ++ (lw_privs_3 ++ (lw_privs_4))), lw_okq q
  exact List.forall_mem_append.mpr ⟨lw_r1, List.forall_mem_append.mpr ⟨lw_r2, List.forall_mem_append.mpr ⟨lw_r3, lw_r4⟩⟩⟩
def RX0 : String := "CoinsAreDoves$Breeder"
def TX0 : u_T := fun k => match k with
  | _ => ("", "", "", false)
def tyX0 : Nat → FieldType := fun k => match k with
  | _ => .int
abbrev wsX00 : List Cond := u_ws RX0 TX0 0
theorem nmX0 : ∀ a, a < 0 → ∀ b, b < 0 → a ≠ b → (TX0 a).2.1 ≠ (TX0 b).2.1 := by decide +kernel
theorem tyX0_ok : ∀ k, k < 0 → parseFieldDescriptor (TX0 k).2.2.1 = some (tyX0 k) := by decide +kernel
abbrev cX0_init : ByteArray := prog_2_method_1_code
def yX0_init : MethodName := ⟨RX0, "<init>", "()V"⟩
abbrev cX0_worth : ByteArray := prog_2_method_2_code
def yX0_worth : MethodName := ⟨RX0, "worth", "(I)I"⟩
abbrev cX0_lays : ByteArray := prog_2_method_3_code
def yX0_lays : MethodName := ⟨RX0, "lays", "(I)Z"⟩
def RX1 : String := "CoinsAreDoves$Dove"
def TX1 : u_T := fun k => match k with
  | _ => ("", "", "", false)
def tyX1 : Nat → FieldType := fun k => match k with
  | _ => .int
abbrev wsX10 : List Cond := u_ws RX1 TX1 0
theorem nmX1 : ∀ a, a < 0 → ∀ b, b < 0 → a ≠ b → (TX1 a).2.1 ≠ (TX1 b).2.1 := by decide +kernel
theorem tyX1_ok : ∀ k, k < 0 → parseFieldDescriptor (TX1 k).2.2.1 = some (tyX1 k) := by decide +kernel
abbrev cX1_init : ByteArray := prog_3_method_1_code
def yX1_init : MethodName := ⟨RX1, "<init>", "()V"⟩
abbrev cX1_aim : ByteArray := prog_3_method_2_code
def yX1_aim : MethodName := ⟨RX1, "aim", "(LCoinsAreDoves$Town;III)I"⟩
abbrev cX1_worth : ByteArray := prog_3_method_3_code
def yX1_worth : MethodName := ⟨RX1, "worth", "(I)I"⟩
abbrev cX1_lays : ByteArray := prog_3_method_4_code
def yX1_lays : MethodName := ⟨RX1, "lays", "(I)Z"⟩
def RX2 : String := "CoinsAreDoves$Old"
def TX2 : u_T := fun k => match k with
  | _ => ("", "", "", false)
def tyX2 : Nat → FieldType := fun k => match k with
  | _ => .int
abbrev wsX20 : List Cond := u_ws RX2 TX2 0
theorem nmX2 : ∀ a, a < 0 → ∀ b, b < 0 → a ≠ b → (TX2 a).2.1 ≠ (TX2 b).2.1 := by decide +kernel
theorem tyX2_ok : ∀ k, k < 0 → parseFieldDescriptor (TX2 k).2.2.1 = some (tyX2 k) := by decide +kernel
abbrev cX2_init : ByteArray := prog_4_method_1_code
def yX2_init : MethodName := ⟨RX2, "<init>", "()V"⟩
abbrev cX2_aim : ByteArray := prog_4_method_2_code
def yX2_aim : MethodName := ⟨RX2, "aim", "(LCoinsAreDoves$Town;III)I"⟩
abbrev cX2_worth : ByteArray := prog_4_method_3_code
def yX2_worth : MethodName := ⟨RX2, "worth", "(I)I"⟩
def RX3 : String := "CoinsAreDoves$Stray"
def TX3 : u_T := fun k => match k with
  | _ => ("", "", "", false)
def tyX3 : Nat → FieldType := fun k => match k with
  | _ => .int
abbrev wsX30 : List Cond := u_ws RX3 TX3 0
theorem nmX3 : ∀ a, a < 0 → ∀ b, b < 0 → a ≠ b → (TX3 a).2.1 ≠ (TX3 b).2.1 := by decide +kernel
theorem tyX3_ok : ∀ k, k < 0 → parseFieldDescriptor (TX3 k).2.2.1 = some (tyX3 k) := by decide +kernel
abbrev cX3_init : ByteArray := prog_5_method_1_code
def yX3_init : MethodName := ⟨RX3, "<init>", "()V"⟩
abbrev cX3_aim : ByteArray := prog_5_method_2_code
def yX3_aim : MethodName := ⟨RX3, "aim", "(LCoinsAreDoves$Town;III)I"⟩
abbrev cX3_worth : ByteArray := prog_5_method_3_code
def yX3_worth : MethodName := ⟨RX3, "worth", "(I)I"⟩
def RX4 : String := "CoinsAreDoves$Tame"
def TX4 : u_T := fun k => match k with
  | _ => ("", "", "", false)
def tyX4 : Nat → FieldType := fun k => match k with
  | _ => .int
abbrev wsX40 : List Cond := u_ws RX4 TX4 0
theorem nmX4 : ∀ a, a < 0 → ∀ b, b < 0 → a ≠ b → (TX4 a).2.1 ≠ (TX4 b).2.1 := by decide +kernel
theorem tyX4_ok : ∀ k, k < 0 → parseFieldDescriptor (TX4 k).2.2.1 = some (tyX4 k) := by decide +kernel
abbrev cX4_init : ByteArray := prog_6_method_1_code
def yX4_init : MethodName := ⟨RX4, "<init>", "()V"⟩
abbrev cX4_aim : ByteArray := prog_6_method_2_code
def yX4_aim : MethodName := ⟨RX4, "aim", "(LCoinsAreDoves$Town;III)I"⟩
abbrev cX4_worth : ByteArray := prog_6_method_3_code
def yX4_worth : MethodName := ⟨RX4, "worth", "(I)I"⟩
def RX5 : String := "CoinsAreDoves$Text"
def TX5 : u_T := fun k => match k with
  | 0 => ("CoinsAreDoves$Text", "letters", "[I", true)
  | _ => ("CoinsAreDoves$Text", "length", "I", false)
def tyX5 : Nat → FieldType := fun k => match k with
  | 0 => .array .int
  | _ => .int
abbrev wsX50 : List Cond := u_ws RX5 TX5 2
theorem nmX5 : ∀ a, a < 2 → ∀ b, b < 2 → a ≠ b → (TX5 a).2.1 ≠ (TX5 b).2.1 := by decide +kernel
theorem tyX5_ok : ∀ k, k < 2 → parseFieldDescriptor (TX5 k).2.2.1 = some (tyX5 k) := by decide +kernel
abbrev cX5_init : ByteArray := prog_7_method_1_code
def yX5_init : MethodName := ⟨RX5, "<init>", "()V"⟩
abbrev cX5_isFull : ByteArray := prog_7_method_2_code
def yX5_isFull : MethodName := ⟨RX5, "isFull", "()Z"⟩
abbrev cX5_add : ByteArray := prog_7_method_3_code
def yX5_add : MethodName := ⟨RX5, "add", "(I)V"⟩
abbrev cX5_clear : ByteArray := prog_7_method_4_code
def yX5_clear : MethodName := ⟨RX5, "clear", "()V"⟩
abbrev cX5_firstMisfit : ByteArray := prog_7_method_5_code
def yX5_firstMisfit : MethodName := ⟨RX5, "firstMisfit", "()I"⟩
abbrev cX5_firstUntellable : ByteArray := prog_7_method_6_code
def yX5_firstUntellable : MethodName := ⟨RX5, "firstUntellable", "(LCoinsAreDoves$Town;)I"⟩
abbrev cX5_statements : ByteArray := prog_7_method_7_code
def yX5_statements : MethodName := ⟨RX5, "statements", "()I"⟩
abbrev cX5_endOfStatement : ByteArray := prog_7_method_8_code
def yX5_endOfStatement : MethodName := ⟨RX5, "endOfStatement", "(I)I"⟩
abbrev cX5_formBehind : ByteArray := prog_7_method_9_code
def yX5_formBehind : MethodName := ⟨RX5, "formBehind", "(I)Ljava/lang/String;"⟩
abbrev cX5_fits : ByteArray := prog_7_method_10_code
def yX5_fits : MethodName := ⟨RX5, "fits", "(CI)Z"⟩
abbrev cX5_tell : ByteArray := prog_7_method_11_code
def yX5_tell : MethodName := ⟨RX5, "tell", "(LCoinsAreDoves$Town;I)Z"⟩
abbrev cX5_signAt : ByteArray := prog_7_method_12_code
def yX5_signAt : MethodName := ⟨RX5, "signAt", "(I)I"⟩
abbrev cX5_digitAt : ByteArray := prog_7_method_13_code
def yX5_digitAt : MethodName := ⟨RX5, "digitAt", "(I)I"⟩
abbrev cX5_numberAt : ByteArray := prog_7_method_14_code
def yX5_numberAt : MethodName := ⟨RX5, "numberAt", "(I)I"⟩
abbrev cX5_isDigit : ByteArray := prog_7_method_15_code
def yX5_isDigit : MethodName := ⟨RX5, "isDigit", "(I)Z"⟩
abbrev cX5_kindOf : ByteArray := prog_7_method_16_code
def yX5_kindOf : MethodName := ⟨RX5, "kindOf", "(I)I"⟩
def RX6 : String := "CoinsAreDoves$Town"
def TX6 : u_T := fun k => match k with
  | 0 => ("CoinsAreDoves$Town", "kinds", "[LCoinsAreDoves$Dove;", true)
  | 1 => ("CoinsAreDoves$Town", "x", "[I", true)
  | 2 => ("CoinsAreDoves$Town", "y", "[I", true)
  | 3 => ("CoinsAreDoves$Town", "kind", "[I", true)
  | 4 => ("CoinsAreDoves$Town", "home", "[I", true)
  | 5 => ("CoinsAreDoves$Town", "age", "[I", true)
  | 6 => ("CoinsAreDoves$Town", "at", "[I", true)
  | 7 => ("CoinsAreDoves$Town", "clipped", "[I", true)
  | 8 => ("CoinsAreDoves$Town", "lofts", "I", false)
  | 9 => ("CoinsAreDoves$Town", "doves", "I", false)
  | 10 => ("CoinsAreDoves$Town", "open", "I", false)
  | 11 => ("CoinsAreDoves$Town", "hawk", "I", false)
  | _ => ("CoinsAreDoves$Town", "dusk", "I", false)
def tyX6 : Nat → FieldType := fun k => match k with
  | 0 => .array (.object "CoinsAreDoves$Dove")
  | 1 => .array .int
  | 2 => .array .int
  | 3 => .array .int
  | 4 => .array .int
  | 5 => .array .int
  | 6 => .array .int
  | 7 => .array .int
  | 8 => .int
  | 9 => .int
  | 10 => .int
  | 11 => .int
  | _ => .int
abbrev wsX60 : List Cond := u_ws RX6 TX6 13
theorem nmX6 : ∀ a, a < 13 → ∀ b, b < 13 → a ≠ b → (TX6 a).2.1 ≠ (TX6 b).2.1 := by decide +kernel
theorem tyX6_ok : ∀ k, k < 13 → parseFieldDescriptor (TX6 k).2.2.1 = some (tyX6 k) := by decide +kernel
abbrev cX6_init : ByteArray := prog_8_method_1_code
def yX6_init : MethodName := ⟨RX6, "<init>", "()V"⟩
abbrev cX6_become : ByteArray := prog_8_method_2_code
def yX6_become : MethodName := ⟨RX6, "become", "(LCoinsAreDoves$Town;)V"⟩
abbrev cX6_hasLoft : ByteArray := prog_8_method_3_code
def yX6_hasLoft : MethodName := ⟨RX6, "hasLoft", "(I)Z"⟩
abbrev cX6_hasDove : ByteArray := prog_8_method_4_code
def yX6_hasDove : MethodName := ⟨RX6, "hasDove", "(I)Z"⟩
abbrev cX6_addLoft : ByteArray := prog_8_method_5_code
def yX6_addLoft : MethodName := ⟨RX6, "addLoft", "(II)Z"⟩
abbrev cX6_addDove : ByteArray := prog_8_method_6_code
def yX6_addDove : MethodName := ⟨RX6, "addDove", "(III)Z"⟩
abbrev cX6_turnWindows : ByteArray := prog_8_method_7_code
def yX6_turnWindows : MethodName := ⟨RX6, "turnWindows", "(I)Z"⟩
abbrev cX6_takeHawk : ByteArray := prog_8_method_8_code
def yX6_takeHawk : MethodName := ⟨RX6, "takeHawk", "(I)Z"⟩
abbrev cX6_isOpen : ByteArray := prog_8_method_9_code
def yX6_isOpen : MethodName := ⟨RX6, "isOpen", "(I)Z"⟩
abbrev cX6_isLost : ByteArray := prog_8_method_10_code
def yX6_isLost : MethodName := ⟨RX6, "isLost", "(I)Z"⟩
abbrev cX6_isHome : ByteArray := prog_8_method_11_code
def yX6_isHome : MethodName := ⟨RX6, "isHome", "(I)Z"⟩
abbrev cX6_dovesNotLost : ByteArray := prog_8_method_12_code
def yX6_dovesNotLost : MethodName := ⟨RX6, "dovesNotLost", "()I"⟩
abbrev cX6_dovesIn : ByteArray := prog_8_method_13_code
def yX6_dovesIn : MethodName := ⟨RX6, "dovesIn", "(I)I"⟩
abbrev cX6_dovesHatchedIn : ByteArray := prog_8_method_14_code
def yX6_dovesHatchedIn : MethodName := ⟨RX6, "dovesHatchedIn", "(I)I"⟩
abbrev cX6_apart : ByteArray := prog_8_method_15_code
def yX6_apart : MethodName := ⟨RX6, "apart", "(II)I"⟩
abbrev cX6_nearestOther : ByteArray := prog_8_method_16_code
def yX6_nearestOther : MethodName := ⟨RX6, "nearestOther", "(I)I"⟩
abbrev cX6_kindOf : ByteArray := prog_8_method_17_code
def yX6_kindOf : MethodName := ⟨RX6, "kindOf", "(I)LCoinsAreDoves$Dove;"⟩
abbrev cX6_worthOf : ByteArray := prog_8_method_18_code
def yX6_worthOf : MethodName := ⟨RX6, "worthOf", "(I)I"⟩
abbrev cX6_aimOf : ByteArray := prog_8_method_19_code
def yX6_aimOf : MethodName := ⟨RX6, "aimOf", "(I)I"⟩
abbrev cX6_placeIfLetGo : ByteArray := prog_8_method_20_code
def yX6_placeIfLetGo : MethodName := ⟨RX6, "placeIfLetGo", "(I)I"⟩
abbrev cX6_purseOf : ByteArray := prog_8_method_21_code
def yX6_purseOf : MethodName := ⟨RX6, "purseOf", "(I)I"⟩
abbrev cX6_ownOf : ByteArray := prog_8_method_22_code
def yX6_ownOf : MethodName := ⟨RX6, "ownOf", "(I)I"⟩
abbrev cX6_worthOfAll : ByteArray := prog_8_method_23_code
def yX6_worthOfAll : MethodName := ⟨RX6, "worthOfAll", "(I)I"⟩
abbrev cX6_letAllGo : ByteArray := prog_8_method_24_code
def yX6_letAllGo : MethodName := ⟨RX6, "letAllGo", "()V"⟩
abbrev cX6_passDusks : ByteArray := prog_8_method_25_code
def yX6_passDusks : MethodName := ⟨RX6, "passDusks", "(I)I"⟩
abbrev cX6_passDusk : ByteArray := prog_8_method_26_code
def yX6_passDusk : MethodName := ⟨RX6, "passDusk", "()I"⟩
abbrev cX6_flyAtDusk : ByteArray := prog_8_method_27_code
def yX6_flyAtDusk : MethodName := ⟨RX6, "flyAtDusk", "()I"⟩
abbrev cX6_mayFly : ByteArray := prog_8_method_28_code
def yX6_mayFly : MethodName := ⟨RX6, "mayFly", "(I)Z"⟩
abbrev cX6_wingsGrow : ByteArray := prog_8_method_29_code
def yX6_wingsGrow : MethodName := ⟨RX6, "wingsGrow", "()V"⟩
abbrev cX6_layEggs : ByteArray := prog_8_method_30_code
def yX6_layEggs : MethodName := ⟨RX6, "layEggs", "()V"⟩
abbrev cX6_growOlder : ByteArray := prog_8_method_31_code
def yX6_growOlder : MethodName := ⟨RX6, "growOlder", "(I)V"⟩
def RX7 : String := "CoinsAreDoves$Young"
def TX7 : u_T := fun k => match k with
  | _ => ("", "", "", false)
def tyX7 : Nat → FieldType := fun k => match k with
  | _ => .int
abbrev wsX70 : List Cond := u_ws RX7 TX7 0
theorem nmX7 : ∀ a, a < 0 → ∀ b, b < 0 → a ≠ b → (TX7 a).2.1 ≠ (TX7 b).2.1 := by decide +kernel
theorem tyX7_ok : ∀ k, k < 0 → parseFieldDescriptor (TX7 k).2.2.1 = some (tyX7 k) := by decide +kernel
abbrev cX7_init : ByteArray := prog_9_method_1_code
def yX7_init : MethodName := ⟨RX7, "<init>", "()V"⟩
abbrev cX7_aim : ByteArray := prog_9_method_2_code
def yX7_aim : MethodName := ⟨RX7, "aim", "(LCoinsAreDoves$Town;III)I"⟩
abbrev cX7_worth : ByteArray := prog_9_method_3_code
def yX7_worth : MethodName := ⟨RX7, "worth", "(I)I"⟩
def RX8 : String := "CoinsAreDoves"
def TX8 : u_T := fun k => match k with
  | 0 => ("CoinsAreDoves", "now", "LCoinsAreDoves$Town;", true)
  | 1 => ("CoinsAreDoves", "mind", "LCoinsAreDoves$Town;", true)
  | 2 => ("CoinsAreDoves", "kept", "LCoinsAreDoves$Town;", true)
  | 3 => ("CoinsAreDoves", "text", "LCoinsAreDoves$Text;", true)
  | 4 => ("CoinsAreDoves", "row", "[I", true)
  | 5 => ("CoinsAreDoves", "leaders", "[I", true)
  | 6 => ("CoinsAreDoves", "gains", "[I", true)
  | 7 => ("CoinsAreDoves", "refusals", "[I", true)
  | 8 => ("CoinsAreDoves", "rowLength", "I", false)
  | _ => ("CoinsAreDoves", "imageTaken", "Z", false)
def tyX8 : Nat → FieldType := fun k => match k with
  | 0 => .object "CoinsAreDoves$Town"
  | 1 => .object "CoinsAreDoves$Town"
  | 2 => .object "CoinsAreDoves$Town"
  | 3 => .object "CoinsAreDoves$Text"
  | 4 => .array .int
  | 5 => .array .int
  | 6 => .array .int
  | 7 => .array .int
  | 8 => .int
  | _ => .boolean
abbrev wsX80 : List Cond := u_ws RX8 TX8 10
theorem nmX8 : ∀ a, a < 10 → ∀ b, b < 10 → a ≠ b → (TX8 a).2.1 ≠ (TX8 b).2.1 := by decide +kernel
theorem tyX8_ok : ∀ k, k < 10 → parseFieldDescriptor (TX8 k).2.2.1 = some (tyX8 k) := by decide +kernel
abbrev cX8_init : ByteArray := prog_1_method_1_code
def yX8_init : MethodName := ⟨RX8, "<init>", "()V"⟩
abbrev cX8_letter : ByteArray := prog_1_method_2_code
def yX8_letter : MethodName := ⟨RX8, "letter", "(I)I"⟩
abbrev cX8_town : ByteArray := prog_1_method_3_code
def yX8_town : MethodName := ⟨RX8, "town", "()I"⟩
abbrev cX8_loft : ByteArray := prog_1_method_4_code
def yX8_loft : MethodName := ⟨RX8, "loft", "(II)I"⟩
abbrev cX8_dove : ByteArray := prog_1_method_5_code
def yX8_dove : MethodName := ⟨RX8, "dove", "(II)I"⟩
abbrev cX8_open : ByteArray := prog_1_method_6_code
def yX8_open : MethodName := ⟨RX8, "open", "(II)I"⟩
abbrev cX8_hawk : ByteArray := prog_1_method_7_code
def yX8_hawk : MethodName := ⟨RX8, "hawk", "(I)I"⟩
abbrev cX8_carry : ByteArray := prog_1_method_8_code
def yX8_carry : MethodName := ⟨RX8, "carry", "(II)I"⟩
abbrev cX8_clip : ByteArray := prog_1_method_9_code
def yX8_clip : MethodName := ⟨RX8, "clip", "(II)I"⟩
abbrev cX8_go : ByteArray := prog_1_method_10_code
def yX8_go : MethodName := ⟨RX8, "go", "(I)I"⟩
abbrev cX8_dusk : ByteArray := prog_1_method_11_code
def yX8_dusk : MethodName := ⟨RX8, "dusk", "()I"⟩
abbrev cX8_way : ByteArray := prog_1_method_12_code
def yX8_way : MethodName := ⟨RX8, "way", "(II)I"⟩
abbrev cX8_purse : ByteArray := prog_1_method_13_code
def yX8_purse : MethodName := ⟨RX8, "purse", "(II)I"⟩
abbrev cX8_letting : ByteArray := prog_1_method_14_code
def yX8_letting : MethodName := ⟨RX8, "letting", "(I)I"⟩
abbrev cX8_stays : ByteArray := prog_1_method_15_code
def yX8_stays : MethodName := ⟨RX8, "stays", "(III)I"⟩
abbrev cX8_cheapest : ByteArray := prog_1_method_16_code
def yX8_cheapest : MethodName := ⟨RX8, "cheapest", "(IIII)I"⟩
abbrev cX8_near : ByteArray := prog_1_method_17_code
def yX8_near : MethodName := ⟨RX8, "near", "(II)I"⟩
abbrev cX8_whose : ByteArray := prog_1_method_18_code
def yX8_whose : MethodName := ⟨RX8, "whose", "(II)I"⟩
abbrev cX8_run : ByteArray := prog_1_method_19_code
def yX8_run : MethodName := ⟨RX8, "run", "(II)I"⟩
abbrev cX8_bestOpen : ByteArray := prog_1_method_20_code
def yX8_bestOpen : MethodName := ⟨RX8, "bestOpen", "(II)I"⟩
abbrev cX8_homing : ByteArray := prog_1_method_21_code
def yX8_homing : MethodName := ⟨RX8, "homing", "(I)I"⟩
abbrev cX8_spare : ByteArray := prog_1_method_22_code
def yX8_spare : MethodName := ⟨RX8, "spare", "(I)I"⟩
abbrev cX8_row : ByteArray := prog_1_method_23_code
def yX8_row : MethodName := ⟨RX8, "row", "(I)I"⟩
abbrev cX8_paid : ByteArray := prog_1_method_24_code
def yX8_paid : MethodName := ⟨RX8, "paid", "(I)I"⟩
abbrev cX8_judge : ByteArray := prog_1_method_25_code
def yX8_judge : MethodName := ⟨RX8, "judge", "()I"⟩
abbrev cX8_seeds : ByteArray := prog_1_method_26_code
def yX8_seeds : MethodName := ⟨RX8, "seeds", "(III)I"⟩
abbrev cX8_image : ByteArray := prog_1_method_27_code
def yX8_image : MethodName := ⟨RX8, "image", "()I"⟩
abbrev cX8_on : ByteArray := prog_1_method_28_code
def yX8_on : MethodName := ⟨RX8, "on", "()I"⟩
abbrev cX8_count : ByteArray := prog_1_method_29_code
def yX8_count : MethodName := ⟨RX8, "count", "(I)I"⟩
abbrev cX8_outside : ByteArray := prog_1_method_30_code
def yX8_outside : MethodName := ⟨RX8, "outside", "(III)I"⟩
abbrev cX8_refuse : ByteArray := prog_1_method_31_code
def yX8_refuse : MethodName := ⟨RX8, "refuse", "(I)I"⟩
abbrev cX8_refusalsCounted : ByteArray := prog_1_method_32_code
def yX8_refusalsCounted : MethodName := ⟨RX8, "refusalsCounted", "(I)I"⟩
abbrev cX8_textBecomesTown : ByteArray := prog_1_method_33_code
def yX8_textBecomesTown : MethodName := ⟨RX8, "textBecomesTown", "()I"⟩
abbrev cX8_gainByCarrying : ByteArray := prog_1_method_34_code
def yX8_gainByCarrying : MethodName := ⟨RX8, "gainByCarrying", "(III)V"⟩
abbrev cX8_sumOfGains : ByteArray := prog_1_method_35_code
def yX8_sumOfGains : MethodName := ⟨RX8, "sumOfGains", "(I)I"⟩
abbrev cX8_cheapestSet : ByteArray := prog_1_method_36_code
def yX8_cheapestSet : MethodName := ⟨RX8, "cheapestSet", "(II)I"⟩
abbrev cX8_joinLofts : ByteArray := prog_1_method_37_code
def yX8_joinLofts : MethodName := ⟨RX8, "joinLofts", "(I)V"⟩
abbrev cX8_takeLeastLeader : ByteArray := prog_1_method_38_code
def yX8_takeLeastLeader : MethodName := ⟨RX8, "takeLeastLeader", "(II)V"⟩
abbrev cX8_purses : ByteArray := prog_1_method_39_code
def yX8_purses : MethodName := ⟨RX8, "purses", "()I"⟩
abbrev cX8_richest : ByteArray := prog_1_method_40_code
def yX8_richest : MethodName := ⟨RX8, "richest", "()I"⟩
abbrev cX8_sumLedBy : ByteArray := prog_1_method_41_code
def yX8_sumLedBy : MethodName := ⟨RX8, "sumLedBy", "(I)I"⟩
abbrev cX8_makesRowTrue : ByteArray := prog_1_method_42_code
def yX8_makesRowTrue : MethodName := ⟨RX8, "makesRowTrue", "(II)Z"⟩
abbrev cX8_sameAsRow : ByteArray := prog_1_method_43_code
def yX8_sameAsRow : MethodName := ⟨RX8, "sameAsRow", "(LCoinsAreDoves$Town;I)I"⟩
abbrev cX8_nextSeed : ByteArray := prog_1_method_44_code
def yX8_nextSeed : MethodName := ⟨RX8, "nextSeed", "(I)I"⟩
abbrev cX8_drawn : ByteArray := prog_1_method_45_code
def yX8_drawn : MethodName := ⟨RX8, "drawn", "(II)I"⟩
abbrev cX8_isIn : ByteArray := prog_1_method_46_code
def yX8_isIn : MethodName := ⟨RX8, "isIn", "(II)Z"⟩
def RX9 : String := "CoinsAreDovesModel"
def TX9 : u_T := fun k => match k with
  | 0 => ("CoinsAreDovesModel", "refusals", "[I", true)
  | 1 => ("CoinsAreDovesModel", "s", "[I", true)
  | 2 => ("CoinsAreDovesModel", "image", "[I", true)
  | 3 => ("CoinsAreDovesModel", "read", "[I", true)
  | 4 => ("CoinsAreDovesModel", "mind", "[I", true)
  | 5 => ("CoinsAreDovesModel", "isImage", "Z", false)
  | 6 => ("CoinsAreDovesModel", "tape", "[I", true)
  | 7 => ("CoinsAreDovesModel", "told", "[I", true)
  | 8 => ("CoinsAreDovesModel", "taped", "I", false)
  | 9 => ("CoinsAreDovesModel", "at", "I", false)
  | 10 => ("CoinsAreDovesModel", "row", "[I", true)
  | _ => ("CoinsAreDovesModel", "rowed", "I", false)
def tyX9 : Nat → FieldType := fun k => match k with
  | 0 => .array .int
  | 1 => .array .int
  | 2 => .array .int
  | 3 => .array .int
  | 4 => .array .int
  | 5 => .boolean
  | 6 => .array .int
  | 7 => .array .int
  | 8 => .int
  | 9 => .int
  | 10 => .array .int
  | _ => .int
abbrev wsX90 : List Cond := u_ws RX9 TX9 12
theorem nmX9 : ∀ a, a < 12 → ∀ b, b < 12 → a ≠ b → (TX9 a).2.1 ≠ (TX9 b).2.1 := by decide +kernel
theorem tyX9_ok : ∀ k, k < 12 → parseFieldDescriptor (TX9 k).2.2.1 = some (tyX9 k) := by decide +kernel
abbrev cX9_init : ByteArray := prog_11_method_1_code
def yX9_init : MethodName := ⟨RX9, "<init>", "()V"⟩
abbrev cX9_refuse : ByteArray := prog_11_method_2_code
def yX9_refuse : MethodName := ⟨RX9, "refuse", "(I)I"⟩
abbrev cX9_isIn : ByteArray := prog_11_method_3_code
def yX9_isIn : MethodName := ⟨RX9, "isIn", "(II)Z"⟩
abbrev cX9_within : ByteArray := prog_11_method_4_code
def yX9_within : MethodName := ⟨RX9, "within", "(III)I"⟩
abbrev cX9_amount : ByteArray := prog_11_method_5_code
def yX9_amount : MethodName := ⟨RX9, "amount", "(I)I"⟩
abbrev cX9_lays : ByteArray := prog_11_method_6_code
def yX9_lays : MethodName := ⟨RX9, "lays", "([I[I)V"⟩
abbrev cX9_begins : ByteArray := prog_11_method_7_code
def yX9_begins : MethodName := ⟨RX9, "begins", "()V"⟩
abbrev cX9_ends : ByteArray := prog_11_method_8_code
def yX9_ends : MethodName := ⟨RX9, "ends", "()V"⟩
abbrev cX9_isLoft : ByteArray := prog_11_method_9_code
def yX9_isLoft : MethodName := ⟨RX9, "isLoft", "(I)Z"⟩
abbrev cX9_isDove : ByteArray := prog_11_method_10_code
def yX9_isDove : MethodName := ⟨RX9, "isDove", "(I)Z"⟩
abbrev cX9_get : ByteArray := prog_11_method_11_code
def yX9_get : MethodName := ⟨RX9, "get", "(II)I"⟩
abbrev cX9_puts : ByteArray := prog_11_method_12_code
def yX9_puts : MethodName := ⟨RX9, "puts", "(III)V"⟩
abbrev cX9_isLost : ByteArray := prog_11_method_13_code
def yX9_isLost : MethodName := ⟨RX9, "isLost", "(I)Z"⟩
abbrev cX9_letter : ByteArray := prog_11_method_14_code
def yX9_letter : MethodName := ⟨RX9, "letter", "(I)I"⟩
abbrev cX9_sign : ByteArray := prog_11_method_15_code
def yX9_sign : MethodName := ⟨RX9, "sign", "()I"⟩
abbrev cX9_takes : ByteArray := prog_11_method_16_code
def yX9_takes : MethodName := ⟨RX9, "takes", "(I)Z"⟩
abbrev cX9_readsNumber : ByteArray := prog_11_method_17_code
def yX9_readsNumber : MethodName := ⟨RX9, "readsNumber", "(II)Z"⟩
abbrev cX9_kindOf : ByteArray := prog_11_method_18_code
def yX9_kindOf : MethodName := ⟨RX9, "kindOf", "(I)I"⟩
abbrev cX9_readsKind : ByteArray := prog_11_method_19_code
def yX9_readsKind : MethodName := ⟨RX9, "readsKind", "()Z"⟩
abbrev cX9_readsStatement : ByteArray := prog_11_method_20_code
def yX9_readsStatement : MethodName := ⟨RX9, "readsStatement", "()Z"⟩
abbrev cX9_comes : ByteArray := prog_11_method_21_code
def yX9_comes : MethodName := ⟨RX9, "comes", "(I)Z"⟩
abbrev cX9_reads : ByteArray := prog_11_method_22_code
def yX9_reads : MethodName := ⟨RX9, "reads", "()I"⟩
abbrev cX9_town : ByteArray := prog_11_method_23_code
def yX9_town : MethodName := ⟨RX9, "town", "()I"⟩
abbrev cX9_wayOf : ByteArray := prog_11_method_24_code
def yX9_wayOf : MethodName := ⟨RX9, "wayOf", "(II)I"⟩
abbrev cX9_nearestOther : ByteArray := prog_11_method_25_code
def yX9_nearestOther : MethodName := ⟨RX9, "nearestOther", "(I)I"⟩
abbrev cX9_flies : ByteArray := prog_11_method_26_code
def yX9_flies : MethodName := ⟨RX9, "flies", "(I)I"⟩
abbrev cX9_valueOf : ByteArray := prog_11_method_27_code
def yX9_valueOf : MethodName := ⟨RX9, "valueOf", "(I)I"⟩
abbrev cX9_goesHome : ByteArray := prog_11_method_28_code
def yX9_goesHome : MethodName := ⟨RX9, "goesHome", "(II)V"⟩
abbrev cX9_layEggs : ByteArray := prog_11_method_29_code
def yX9_layEggs : MethodName := ⟨RX9, "layEggs", "()V"⟩
abbrev cX9_lostMany : ByteArray := prog_11_method_30_code
def yX9_lostMany : MethodName := ⟨RX9, "lostMany", "()I"⟩
abbrev cX9_goes : ByteArray := prog_11_method_31_code
def yX9_goes : MethodName := ⟨RX9, "goes", "()V"⟩
abbrev cX9_goesFor : ByteArray := prog_11_method_32_code
def yX9_goesFor : MethodName := ⟨RX9, "goesFor", "(I)V"⟩
abbrev cX9_purseOf : ByteArray := prog_11_method_33_code
def yX9_purseOf : MethodName := ⟨RX9, "purseOf", "(I)I"⟩
abbrev cX9_ownOf : ByteArray := prog_11_method_34_code
def yX9_ownOf : MethodName := ⟨RX9, "ownOf", "(I)I"⟩
abbrev cX9_loft : ByteArray := prog_11_method_35_code
def yX9_loft : MethodName := ⟨RX9, "loft", "(II)I"⟩
abbrev cX9_dove : ByteArray := prog_11_method_36_code
def yX9_dove : MethodName := ⟨RX9, "dove", "(II)I"⟩
abbrev cX9_open : ByteArray := prog_11_method_37_code
def yX9_open : MethodName := ⟨RX9, "open", "(II)I"⟩
abbrev cX9_hawk : ByteArray := prog_11_method_38_code
def yX9_hawk : MethodName := ⟨RX9, "hawk", "(I)I"⟩
abbrev cX9_carry : ByteArray := prog_11_method_39_code
def yX9_carry : MethodName := ⟨RX9, "carry", "(II)I"⟩
abbrev cX9_clip : ByteArray := prog_11_method_40_code
def yX9_clip : MethodName := ⟨RX9, "clip", "(II)I"⟩
abbrev cX9_go : ByteArray := prog_11_method_41_code
def yX9_go : MethodName := ⟨RX9, "go", "(I)I"⟩
abbrev cX9_dusk : ByteArray := prog_11_method_42_code
def yX9_dusk : MethodName := ⟨RX9, "dusk", "()I"⟩
abbrev cX9_way : ByteArray := prog_11_method_43_code
def yX9_way : MethodName := ⟨RX9, "way", "(II)I"⟩
abbrev cX9_purse : ByteArray := prog_11_method_44_code
def yX9_purse : MethodName := ⟨RX9, "purse", "(II)I"⟩
abbrev cX9_letting : ByteArray := prog_11_method_45_code
def yX9_letting : MethodName := ⟨RX9, "letting", "(I)I"⟩
abbrev cX9_areDoves : ByteArray := prog_11_method_46_code
def yX9_areDoves : MethodName := ⟨RX9, "areDoves", "(I)Z"⟩
abbrev cX9_staysOf : ByteArray := prog_11_method_47_code
def yX9_staysOf : MethodName := ⟨RX9, "staysOf", "(III)I"⟩
abbrev cX9_stays : ByteArray := prog_11_method_48_code
def yX9_stays : MethodName := ⟨RX9, "stays", "(III)I"⟩
abbrev cX9_worthNow : ByteArray := prog_11_method_49_code
def yX9_worthNow : MethodName := ⟨RX9, "worthNow", "(I)I"⟩
abbrev cX9_areAllIn : ByteArray := prog_11_method_50_code
def yX9_areAllIn : MethodName := ⟨RX9, "areAllIn", "(II)Z"⟩
abbrev cX9_cheapest : ByteArray := prog_11_method_51_code
def yX9_cheapest : MethodName := ⟨RX9, "cheapest", "(IIII)I"⟩
abbrev cX9_oneWith : ByteArray := prog_11_method_52_code
def yX9_oneWith : MethodName := ⟨RX9, "oneWith", "(II)I"⟩
abbrev cX9_near : ByteArray := prog_11_method_53_code
def yX9_near : MethodName := ⟨RX9, "near", "(II)I"⟩
abbrev cX9_whose : ByteArray := prog_11_method_54_code
def yX9_whose : MethodName := ⟨RX9, "whose", "(II)I"⟩
abbrev cX9_run : ByteArray := prog_11_method_55_code
def yX9_run : MethodName := ⟨RX9, "run", "(II)I"⟩
abbrev cX9_bestOpen : ByteArray := prog_11_method_56_code
def yX9_bestOpen : MethodName := ⟨RX9, "bestOpen", "(II)I"⟩
abbrev cX9_homing : ByteArray := prog_11_method_57_code
def yX9_homing : MethodName := ⟨RX9, "homing", "(I)I"⟩
abbrev cX9_spare : ByteArray := prog_11_method_58_code
def yX9_spare : MethodName := ⟨RX9, "spare", "(I)I"⟩
abbrev cX9_row : ByteArray := prog_11_method_59_code
def yX9_row : MethodName := ⟨RX9, "row", "(I)I"⟩
abbrev cX9_isAsTold : ByteArray := prog_11_method_60_code
def yX9_isAsTold : MethodName := ⟨RX9, "isAsTold", "()Z"⟩
abbrev cX9_paid : ByteArray := prog_11_method_61_code
def yX9_paid : MethodName := ⟨RX9, "paid", "(I)I"⟩
abbrev cX9_judge : ByteArray := prog_11_method_62_code
def yX9_judge : MethodName := ⟨RX9, "judge", "()I"⟩
abbrev cX9_seeds : ByteArray := prog_11_method_63_code
def yX9_seeds : MethodName := ⟨RX9, "seeds", "(III)I"⟩
abbrev cX9_image : ByteArray := prog_11_method_64_code
def yX9_image : MethodName := ⟨RX9, "image", "()I"⟩
abbrev cX9_on : ByteArray := prog_11_method_65_code
def yX9_on : MethodName := ⟨RX9, "on", "()I"⟩
abbrev cX9_count : ByteArray := prog_11_method_66_code
def yX9_count : MethodName := ⟨RX9, "count", "(I)I"⟩
def RJ11 : String := "java/lang/Character"
def TJ11 : u_T := fun k => match k with
  | _ => ("", "", "", false)
def tyJ11 : Nat → FieldType := fun k => match k with
  | _ => .int
abbrev cJ11_isValidCodePoint_9a6ad : ByteArray := prog_12_method_11_code
def yJ11_isValidCodePoint_9a6ad : MethodName := ⟨RJ11, "isValidCodePoint", "(I)Z"⟩
abbrev cJ11_highSurrogate_5068e : ByteArray := prog_12_method_28_code
def yJ11_highSurrogate_5068e : MethodName := ⟨RJ11, "highSurrogate", "(I)C"⟩
abbrev cJ11_lowSurrogate_5068e : ByteArray := prog_12_method_29_code
def yJ11_lowSurrogate_5068e : MethodName := ⟨RJ11, "lowSurrogate", "(I)C"⟩
def RJ6 : String := "java/lang/Integer"
def TJ6 : u_T := fun k => match k with
  | _ => ("", "", "", false)
def tyJ6 : Nat → FieldType := fun k => match k with
  | _ => .int
abbrev cJ6_bitCount_0f7a4 : ByteArray := prog_13_method_49_code
def yJ6_bitCount_0f7a4 : MethodName := ⟨RJ6, "bitCount", "(I)I"⟩
def RJ9 : String := "java/lang/Math"
def TJ9 : u_T := fun k => match k with
  | _ => ("", "", "", false)
def tyJ9 : Nat → FieldType := fun k => match k with
  | _ => .int
abbrev cJ9_max_7cf53 : ByteArray := prog_14_method_65_code
def yJ9_max_7cf53 : MethodName := ⟨RJ9, "max", "(II)I"⟩
abbrev cJ9_min_7cf53 : ByteArray := prog_14_method_69_code
def yJ9_min_7cf53 : MethodName := ⟨RJ9, "min", "(II)I"⟩
def RJ0 : String := "java/lang/String"
def TJ0 : u_T := fun k => match k with
  | _ => ("", "", "", false)
def tyJ0 : Nat → FieldType := fun k => match k with
  | _ => .int
abbrev cJ0_length_8abf5 : ByteArray := prog_15_method_54_code
def yJ0_length_8abf5 : MethodName := ⟨RJ0, "length", "()I"⟩
abbrev cJ0_isEmpty_aae02 : ByteArray := prog_15_method_55_code
def yJ0_isEmpty_aae02 : MethodName := ⟨RJ0, "isEmpty", "()Z"⟩
abbrev cJ0_charAt_5068e : ByteArray := prog_15_method_56_code
def yJ0_charAt_5068e : MethodName := ⟨RJ0, "charAt", "(I)C"⟩
abbrev cJ0_indexOf_0f7a4 : ByteArray := prog_15_method_79_code
def yJ0_indexOf_0f7a4 : MethodName := ⟨RJ0, "indexOf", "(I)I"⟩
abbrev cJ0_indexOf_7cf53 : ByteArray := prog_15_method_80_code
def yJ0_indexOf_7cf53 : MethodName := ⟨RJ0, "indexOf", "(II)I"⟩
abbrev cJ0_coder_7d493 : ByteArray := prog_15_method_152_code
def yJ0_coder_7d493 : MethodName := ⟨RJ0, "coder", "()B"⟩
abbrev cJ0_isLatin1_aae02 : ByteArray := prog_15_method_154_code
def yJ0_isLatin1_aae02 : MethodName := ⟨RJ0, "isLatin1", "()Z"⟩
abbrev cJ0_checkIndex_df160 : ByteArray := prog_15_method_155_code
def yJ0_checkIndex_df160 : MethodName := ⟨RJ0, "checkIndex", "(II)V"⟩
abbrev cJ0_checkBoundsBeginEnd_23922 : ByteArray := prog_15_method_158_code
def yJ0_checkBoundsBeginEnd_23922 : MethodName := ⟨RJ0, "checkBoundsBeginEnd", "(III)V"⟩
def RJ1 : String := "java/lang/StringLatin1"
def TJ1 : u_T := fun k => match k with
  | _ => ("", "", "", false)
def tyJ1 : Nat → FieldType := fun k => match k with
  | _ => .int
abbrev cJ1_charAt_3b067 : ByteArray := prog_16_method_2_code
def yJ1_charAt_3b067 : MethodName := ⟨RJ1, "charAt", "([BI)C"⟩
abbrev cJ1_canEncode_9a6ad : ByteArray := prog_16_method_4_code
def yJ1_canEncode_9a6ad : MethodName := ⟨RJ1, "canEncode", "(I)Z"⟩
abbrev cJ1_indexOf_4cfef : ByteArray := prog_16_method_22_code
def yJ1_indexOf_4cfef : MethodName := ⟨RJ1, "indexOf", "([BIII)I"⟩
abbrev cJ1_indexOfChar_4cfef : ByteArray := prog_16_method_23_code
def yJ1_indexOfChar_4cfef : MethodName := ⟨RJ1, "indexOfChar", "([BIII)I"⟩
def RJ2 : String := "java/lang/StringUTF16"
def TJ2 : u_T := fun k => match k with
  | _ => ("", "", "", false)
def tyJ2 : Nat → FieldType := fun k => match k with
  | _ => .int
abbrev cJ2_getChar_3b067 : ByteArray := prog_17_method_5_code
def yJ2_getChar_3b067 : MethodName := ⟨RJ2, "getChar", "([BI)C"⟩
abbrev cJ2_length_9d52b : ByteArray := prog_17_method_6_code
def yJ2_length_9d52b : MethodName := ⟨RJ2, "length", "([B)I"⟩
abbrev cJ2_indexOf_4cfef : ByteArray := prog_17_method_40_code
def yJ2_indexOf_4cfef : MethodName := ⟨RJ2, "indexOf", "([BIII)I"⟩
abbrev cJ2_indexOfChar_4cfef : ByteArray := prog_17_method_47_code
def yJ2_indexOfChar_4cfef : MethodName := ⟨RJ2, "indexOfChar", "([BIII)I"⟩
abbrev cJ2_indexOfCharUnsafe_4cfef : ByteArray := prog_17_method_48_code
def yJ2_indexOfCharUnsafe_4cfef : MethodName := ⟨RJ2, "indexOfCharUnsafe", "([BIII)I"⟩
abbrev cJ2_indexOfSupplementary_4cfef : ByteArray := prog_17_method_49_code
def yJ2_indexOfSupplementary_4cfef : MethodName := ⟨RJ2, "indexOfSupplementary", "([BIII)I"⟩
abbrev cJ2_charAt_3b067 : ByteArray := prog_17_method_83_code
def yJ2_charAt_3b067 : MethodName := ⟨RJ2, "charAt", "([BI)C"⟩
abbrev cJ2_checkIndex_2214a : ByteArray := prog_17_method_91_code
def yJ2_checkIndex_2214a : MethodName := ⟨RJ2, "checkIndex", "(I[B)V"⟩
abbrev cJ2_checkBoundsBeginEnd_d044e : ByteArray := prog_17_method_93_code
def yJ2_checkBoundsBeginEnd_d044e : MethodName := ⟨RJ2, "checkBoundsBeginEnd", "(II[B)V"⟩
def RJ10 : String := "java/lang/System"
def TJ10 : u_T := fun k => match k with
  | _ => ("", "", "", false)
def tyJ10 : Nat → FieldType := fun k => match k with
  | _ => .int
def RJ3 : String := "jdk/internal/util/Preconditions"
def TJ3 : u_T := fun k => match k with
  | _ => ("", "", "", false)
def tyJ3 : Nat → FieldType := fun k => match k with
  | _ => .int
abbrev cJ3_checkIndex_8e157 : ByteArray := prog_19_method_11_code
def yJ3_checkIndex_8e157 : MethodName := ⟨RJ3, "checkIndex", "(IILjava/util/function/BiFunction;)I"⟩
abbrev cJ3_checkFromToIndex_8c36e : ByteArray := prog_19_method_12_code
def yJ3_checkFromToIndex_8c36e : MethodName := ⟨RJ3, "checkFromToIndex", "(IIILjava/util/function/BiFunction;)I"⟩
def RL : String := "CoinsAreDovesLaw"
abbrev cL_law : ByteArray := code
def yL_law : MethodName := ⟨RL, "law", "([I)Z"⟩
abbrev vwCl : List vw_C := [(RX0, TX0, 0), (RX1, TX1, 0), (RX2, TX2, 0), (RX3, TX3, 0), (RX4, TX4, 0), (RX5, TX5, 2), (RX6, TX6, 13), (RX7, TX7, 0), (RX8, TX8, 10), (RX9, TX9, 12)]
end
section
theorem dX0_init_0 : decode cX0_init 0 = .ok (.aload_n 0, 1) := by decide +kernel
theorem dX0_init_1 : decode cX0_init 1 = .ok (.invokespecial 1, 3) := by decide +kernel
theorem dX0_init_4 : decode cX0_init 4 = .ok (.return_, 1) := by decide +kernel
theorem dX0_worth_0 : decode cX0_worth 0 = .ok (.aload_n 0, 1) := by decide +kernel
theorem dX0_worth_1 : decode cX0_worth 1 = .ok (.iload_n 1, 1) := by decide +kernel
theorem dX0_worth_2 : decode cX0_worth 2 = .ok (.invokespecial 7, 3) := by decide +kernel
theorem dX0_worth_5 : decode cX0_worth 5 = .ok (.iconst 3, 1) := by decide +kernel
theorem dX0_worth_6 : decode cX0_worth 6 = .ok (.iadd, 1) := by decide +kernel
theorem dX0_worth_7 : decode cX0_worth 7 = .ok (.ireturn, 1) := by decide +kernel
theorem dX0_lays_0 : decode cX0_lays 0 = .ok (.iload_n 1, 1) := by decide +kernel
theorem dX0_lays_1 : decode cX0_lays 1 = .ok (.iconst 1, 1) := by decide +kernel
theorem dX0_lays_2 : decode cX0_lays 2 = .ok (.if_icmp .lt 13, 3) := by decide +kernel
theorem dX0_lays_5 : decode cX0_lays 5 = .ok (.iload_n 1, 1) := by decide +kernel
theorem dX0_lays_6 : decode cX0_lays 6 = .ok (.bipush 6, 2) := by decide +kernel
theorem dX0_lays_8 : decode cX0_lays 8 = .ok (.if_icmp .gt 7, 3) := by decide +kernel
theorem dX0_lays_11 : decode cX0_lays 11 = .ok (.iconst 1, 1) := by decide +kernel
theorem dX0_lays_12 : decode cX0_lays 12 = .ok (.goto 4, 3) := by decide +kernel
theorem dX0_lays_15 : decode cX0_lays 15 = .ok (.iconst 0, 1) := by decide +kernel
theorem dX0_lays_16 : decode cX0_lays 16 = .ok (.ireturn, 1) := by decide +kernel
theorem dX1_init_0 : decode cX1_init 0 = .ok (.aload_n 0, 1) := by decide +kernel
theorem dX1_init_1 : decode cX1_init 1 = .ok (.invokespecial 1, 3) := by decide +kernel
theorem dX1_init_4 : decode cX1_init 4 = .ok (.return_, 1) := by decide +kernel
theorem dX1_aim_0 : decode cX1_aim 0 = .ok (.iload_n 3, 1) := by decide +kernel
theorem dX1_aim_1 : decode cX1_aim 1 = .ok (.ireturn, 1) := by decide +kernel
theorem dX1_worth_0 : decode cX1_worth 0 = .ok (.iconst 5, 1) := by decide +kernel
theorem dX1_worth_1 : decode cX1_worth 1 = .ok (.ireturn, 1) := by decide +kernel
theorem dX1_lays_0 : decode cX1_lays 0 = .ok (.iconst 0, 1) := by decide +kernel
theorem dX1_lays_1 : decode cX1_lays 1 = .ok (.ireturn, 1) := by decide +kernel
theorem dX2_init_0 : decode cX2_init 0 = .ok (.aload_n 0, 1) := by decide +kernel
theorem dX2_init_1 : decode cX2_init 1 = .ok (.invokespecial 3, 3) := by decide +kernel
theorem dX2_init_4 : decode cX2_init 4 = .ok (.return_, 1) := by decide +kernel
theorem dX2_aim_0 : decode cX2_aim 0 = .ok (.iload 4, 2) := by decide +kernel
theorem dX2_aim_2 : decode cX2_aim 2 = .ok (.iconst 5, 1) := by decide +kernel
theorem dX2_aim_3 : decode cX2_aim 3 = .ok (.if_icmp .lt 8, 3) := by decide +kernel
theorem dX2_aim_6 : decode cX2_aim 6 = .ok (.bipush 9, 2) := by decide +kernel
theorem dX2_aim_8 : decode cX2_aim 8 = .ok (.goto 12, 3) := by decide +kernel
theorem dX2_aim_11 : decode cX2_aim 11 = .ok (.aload_n 0, 1) := by decide +kernel
theorem dX2_aim_12 : decode cX2_aim 12 = .ok (.aload_n 1, 1) := by decide +kernel
theorem dX2_aim_13 : decode cX2_aim 13 = .ok (.iload_n 2, 1) := by decide +kernel
theorem dX2_aim_14 : decode cX2_aim 14 = .ok (.iload_n 3, 1) := by decide +kernel
theorem dX2_aim_15 : decode cX2_aim 15 = .ok (.iload 4, 2) := by decide +kernel
theorem dX2_aim_17 : decode cX2_aim 17 = .ok (.invokespecial 9, 3) := by decide +kernel
theorem dX2_aim_20 : decode cX2_aim 20 = .ok (.ireturn, 1) := by decide +kernel
theorem dX2_worth_0 : decode cX2_worth 0 = .ok (.aload_n 0, 1) := by decide +kernel
theorem dX2_worth_1 : decode cX2_worth 1 = .ok (.iload_n 1, 1) := by decide +kernel
theorem dX2_worth_2 : decode cX2_worth 2 = .ok (.invokespecial 13, 3) := by decide +kernel
theorem dX2_worth_5 : decode cX2_worth 5 = .ok (.iload_n 1, 1) := by decide +kernel
theorem dX2_worth_6 : decode cX2_worth 6 = .ok (.isub, 1) := by decide +kernel
theorem dX2_worth_7 : decode cX2_worth 7 = .ok (.iconst 1, 1) := by decide +kernel
theorem dX2_worth_8 : decode cX2_worth 8 = .ok (.invokestatic 17, 3) := by decide +kernel
theorem dX2_worth_11 : decode cX2_worth 11 = .ok (.ireturn, 1) := by decide +kernel
theorem dX3_init_0 : decode cX3_init 0 = .ok (.aload_n 0, 1) := by decide +kernel
theorem dX3_init_1 : decode cX3_init 1 = .ok (.invokespecial 1, 3) := by decide +kernel
theorem dX3_init_4 : decode cX3_init 4 = .ok (.return_, 1) := by decide +kernel
theorem dX3_aim_0 : decode cX3_aim 0 = .ok (.aload_n 1, 1) := by decide +kernel
theorem dX3_aim_1 : decode cX3_aim 1 = .ok (.iload_n 2, 1) := by decide +kernel
theorem dX3_aim_2 : decode cX3_aim 2 = .ok (.invokevirtual 7, 3) := by decide +kernel
theorem dX3_aim_5 : decode cX3_aim 5 = .ok (.ireturn, 1) := by decide +kernel
theorem dX3_worth_0 : decode cX3_worth 0 = .ok (.iconst 2, 1) := by decide +kernel
theorem dX3_worth_1 : decode cX3_worth 1 = .ok (.ireturn, 1) := by decide +kernel
theorem dX4_init_0 : decode cX4_init 0 = .ok (.aload_n 0, 1) := by decide +kernel
theorem dX4_init_1 : decode cX4_init 1 = .ok (.invokespecial 3, 3) := by decide +kernel
theorem dX4_init_4 : decode cX4_init 4 = .ok (.return_, 1) := by decide +kernel
theorem dX4_aim_0 : decode cX4_aim 0 = .ok (.aload_n 1, 1) := by decide +kernel
theorem dX4_aim_1 : decode cX4_aim 1 = .ok (.iload_n 2, 1) := by decide +kernel
theorem dX4_aim_2 : decode cX4_aim 2 = .ok (.iload_n 3, 1) := by decide +kernel
theorem dX4_aim_3 : decode cX4_aim 3 = .ok (.invokevirtual 9, 3) := by decide +kernel
theorem dX4_aim_6 : decode cX4_aim 6 = .ok (.iconst 3, 1) := by decide +kernel
theorem dX4_aim_7 : decode cX4_aim 7 = .ok (.if_icmp .ge 8, 3) := by decide +kernel
theorem dX4_aim_10 : decode cX4_aim 10 = .ok (.bipush 9, 2) := by decide +kernel
theorem dX4_aim_12 : decode cX4_aim 12 = .ok (.goto 12, 3) := by decide +kernel
theorem dX4_aim_15 : decode cX4_aim 15 = .ok (.aload_n 0, 1) := by decide +kernel
theorem dX4_aim_16 : decode cX4_aim 16 = .ok (.aload_n 1, 1) := by decide +kernel
theorem dX4_aim_17 : decode cX4_aim 17 = .ok (.iload_n 2, 1) := by decide +kernel
theorem dX4_aim_18 : decode cX4_aim 18 = .ok (.iload_n 3, 1) := by decide +kernel
theorem dX4_aim_19 : decode cX4_aim 19 = .ok (.iload 4, 2) := by decide +kernel
theorem dX4_aim_21 : decode cX4_aim 21 = .ok (.invokespecial 15, 3) := by decide +kernel
theorem dX4_aim_24 : decode cX4_aim 24 = .ok (.ireturn, 1) := by decide +kernel
theorem dX4_worth_0 : decode cX4_worth 0 = .ok (.iconst 2, 1) := by decide +kernel
theorem dX4_worth_1 : decode cX4_worth 1 = .ok (.aload_n 0, 1) := by decide +kernel
theorem dX4_worth_2 : decode cX4_worth 2 = .ok (.iload_n 1, 1) := by decide +kernel
theorem dX4_worth_3 : decode cX4_worth 3 = .ok (.invokespecial 19, 3) := by decide +kernel
theorem dX4_worth_6 : decode cX4_worth 6 = .ok (.imul, 1) := by decide +kernel
theorem dX4_worth_7 : decode cX4_worth 7 = .ok (.ireturn, 1) := by decide +kernel
theorem dX5_init_0 : decode cX5_init 0 = .ok (.aload_n 0, 1) := by decide +kernel
theorem dX5_init_1 : decode cX5_init 1 = .ok (.invokespecial 3, 3) := by decide +kernel
theorem dX5_init_4 : decode cX5_init 4 = .ok (.aload_n 0, 1) := by decide +kernel
theorem dX5_init_5 : decode cX5_init 5 = .ok (.bipush 64, 2) := by decide +kernel
theorem dX5_init_7 : decode cX5_init 7 = .ok (.newarray .int, 2) := by decide +kernel
theorem dX5_init_9 : decode cX5_init 9 = .ok (.putfield 9, 3) := by decide +kernel
theorem dX5_init_12 : decode cX5_init 12 = .ok (.aload_n 0, 1) := by decide +kernel
theorem dX5_init_13 : decode cX5_init 13 = .ok (.iconst 0, 1) := by decide +kernel
theorem dX5_init_14 : decode cX5_init 14 = .ok (.putfield 15, 3) := by decide +kernel
theorem dX5_init_17 : decode cX5_init 17 = .ok (.return_, 1) := by decide +kernel
theorem dX5_isFull_0 : decode cX5_isFull 0 = .ok (.aload_n 0, 1) := by decide +kernel
theorem dX5_isFull_1 : decode cX5_isFull 1 = .ok (.getfield 15, 3) := by decide +kernel
theorem dX5_isFull_4 : decode cX5_isFull 4 = .ok (.aload_n 0, 1) := by decide +kernel
theorem dX5_isFull_5 : decode cX5_isFull 5 = .ok (.getfield 9, 3) := by decide +kernel
theorem dX5_isFull_8 : decode cX5_isFull 8 = .ok (.arraylength, 1) := by decide +kernel
theorem dX5_isFull_9 : decode cX5_isFull 9 = .ok (.if_icmp .lt 7, 3) := by decide +kernel
theorem dX5_isFull_12 : decode cX5_isFull 12 = .ok (.iconst 1, 1) := by decide +kernel
theorem dX5_isFull_13 : decode cX5_isFull 13 = .ok (.goto 4, 3) := by decide +kernel
theorem dX5_isFull_16 : decode cX5_isFull 16 = .ok (.iconst 0, 1) := by decide +kernel
theorem dX5_isFull_17 : decode cX5_isFull 17 = .ok (.ireturn, 1) := by decide +kernel
theorem dX5_add_0 : decode cX5_add 0 = .ok (.aload_n 0, 1) := by decide +kernel
theorem dX5_add_1 : decode cX5_add 1 = .ok (.invokevirtual 19, 3) := by decide +kernel
theorem dX5_add_4 : decode cX5_add 4 = .ok (.ifCond .ne 23, 3) := by decide +kernel
theorem dX5_add_7 : decode cX5_add 7 = .ok (.aload_n 0, 1) := by decide +kernel
theorem dX5_add_8 : decode cX5_add 8 = .ok (.getfield 9, 3) := by decide +kernel
theorem dX5_add_11 : decode cX5_add 11 = .ok (.aload_n 0, 1) := by decide +kernel
theorem dX5_add_12 : decode cX5_add 12 = .ok (.getfield 15, 3) := by decide +kernel
theorem dX5_add_15 : decode cX5_add 15 = .ok (.iload_n 1, 1) := by decide +kernel
theorem dX5_add_16 : decode cX5_add 16 = .ok (.iastore, 1) := by decide +kernel
theorem dX5_add_17 : decode cX5_add 17 = .ok (.aload_n 0, 1) := by decide +kernel
theorem dX5_add_18 : decode cX5_add 18 = .ok (.dup, 1) := by decide +kernel
theorem dX5_add_19 : decode cX5_add 19 = .ok (.getfield 15, 3) := by decide +kernel
theorem dX5_add_22 : decode cX5_add 22 = .ok (.iconst 1, 1) := by decide +kernel
theorem dX5_add_23 : decode cX5_add 23 = .ok (.iadd, 1) := by decide +kernel
theorem dX5_add_24 : decode cX5_add 24 = .ok (.putfield 15, 3) := by decide +kernel
theorem dX5_add_27 : decode cX5_add 27 = .ok (.return_, 1) := by decide +kernel
theorem dX5_clear_0 : decode cX5_clear 0 = .ok (.aload_n 0, 1) := by decide +kernel
theorem dX5_clear_1 : decode cX5_clear 1 = .ok (.iconst 0, 1) := by decide +kernel
theorem dX5_clear_2 : decode cX5_clear 2 = .ok (.putfield 15, 3) := by decide +kernel
theorem dX5_clear_5 : decode cX5_clear 5 = .ok (.return_, 1) := by decide +kernel
theorem dX5_firstMisfit_0 : decode cX5_firstMisfit 0 = .ok (.iconst 0, 1) := by decide +kernel
theorem dX5_firstMisfit_1 : decode cX5_firstMisfit 1 = .ok (.istore_n 1, 1) := by decide +kernel
theorem dX5_firstMisfit_2 : decode cX5_firstMisfit 2 = .ok (.iconst 0, 1) := by decide +kernel
theorem dX5_firstMisfit_3 : decode cX5_firstMisfit 3 = .ok (.istore_n 2, 1) := by decide +kernel
theorem dX5_firstMisfit_4 : decode cX5_firstMisfit 4 = .ok (.iload_n 2, 1) := by decide +kernel
theorem dX5_firstMisfit_5 : decode cX5_firstMisfit 5 = .ok (.bipush 64, 2) := by decide +kernel
theorem dX5_firstMisfit_7 : decode cX5_firstMisfit 7 = .ok (.if_icmp .ge 35, 3) := by decide +kernel
theorem dX5_firstMisfit_10 : decode cX5_firstMisfit 10 = .ok (.aload_n 0, 1) := by decide +kernel
theorem dX5_firstMisfit_11 : decode cX5_firstMisfit 11 = .ok (.iload_n 1, 1) := by decide +kernel
theorem dX5_firstMisfit_12 : decode cX5_firstMisfit 12 = .ok (.invokevirtual 23, 3) := by decide +kernel
theorem dX5_firstMisfit_15 : decode cX5_firstMisfit 15 = .ok (.istore_n 3, 1) := by decide +kernel
theorem dX5_firstMisfit_16 : decode cX5_firstMisfit 16 = .ok (.iload_n 3, 1) := by decide +kernel
theorem dX5_firstMisfit_17 : decode cX5_firstMisfit 17 = .ok (.ifCond .ge 7, 3) := by decide +kernel
theorem dX5_firstMisfit_20 : decode cX5_firstMisfit 20 = .ok (.iconst (-1), 1) := by decide +kernel
theorem dX5_firstMisfit_21 : decode cX5_firstMisfit 21 = .ok (.iload_n 3, 1) := by decide +kernel
theorem dX5_firstMisfit_22 : decode cX5_firstMisfit 22 = .ok (.isub, 1) := by decide +kernel
theorem dX5_firstMisfit_23 : decode cX5_firstMisfit 23 = .ok (.ireturn, 1) := by decide +kernel
theorem dX5_firstMisfit_24 : decode cX5_firstMisfit 24 = .ok (.iload_n 3, 1) := by decide +kernel
theorem dX5_firstMisfit_25 : decode cX5_firstMisfit 25 = .ok (.aload_n 0, 1) := by decide +kernel
theorem dX5_firstMisfit_26 : decode cX5_firstMisfit 26 = .ok (.getfield 15, 3) := by decide +kernel
theorem dX5_firstMisfit_29 : decode cX5_firstMisfit 29 = .ok (.if_icmp .lt 5, 3) := by decide +kernel
theorem dX5_firstMisfit_32 : decode cX5_firstMisfit 32 = .ok (.iconst (-1), 1) := by decide +kernel
theorem dX5_firstMisfit_33 : decode cX5_firstMisfit 33 = .ok (.ireturn, 1) := by decide +kernel
theorem dX5_firstMisfit_34 : decode cX5_firstMisfit 34 = .ok (.iload_n 3, 1) := by decide +kernel
theorem dX5_firstMisfit_35 : decode cX5_firstMisfit 35 = .ok (.istore_n 1, 1) := by decide +kernel
theorem dX5_firstMisfit_36 : decode cX5_firstMisfit 36 = .ok (.iinc 2 1, 3) := by decide +kernel
theorem dX5_firstMisfit_39 : decode cX5_firstMisfit 39 = .ok (.goto (-35), 3) := by decide +kernel
theorem dX5_firstMisfit_42 : decode cX5_firstMisfit 42 = .ok (.iload_n 1, 1) := by decide +kernel
theorem dX5_firstMisfit_43 : decode cX5_firstMisfit 43 = .ok (.ireturn, 1) := by decide +kernel
theorem dX5_firstUntellable_0 : decode cX5_firstUntellable 0 = .ok (.iconst 0, 1) := by decide +kernel
theorem dX5_firstUntellable_1 : decode cX5_firstUntellable 1 = .ok (.istore_n 2, 1) := by decide +kernel
theorem dX5_firstUntellable_2 : decode cX5_firstUntellable 2 = .ok (.iconst 0, 1) := by decide +kernel
theorem dX5_firstUntellable_3 : decode cX5_firstUntellable 3 = .ok (.istore_n 3, 1) := by decide +kernel
theorem dX5_firstUntellable_4 : decode cX5_firstUntellable 4 = .ok (.iload_n 3, 1) := by decide +kernel
theorem dX5_firstUntellable_5 : decode cX5_firstUntellable 5 = .ok (.bipush 64, 2) := by decide +kernel
theorem dX5_firstUntellable_7 : decode cX5_firstUntellable 7 = .ok (.if_icmp .ge 38, 3) := by decide +kernel
theorem dX5_firstUntellable_10 : decode cX5_firstUntellable 10 = .ok (.iload_n 2, 1) := by decide +kernel
theorem dX5_firstUntellable_11 : decode cX5_firstUntellable 11 = .ok (.ifCond .lt 34, 3) := by decide +kernel
theorem dX5_firstUntellable_14 : decode cX5_firstUntellable 14 = .ok (.iload_n 2, 1) := by decide +kernel
theorem dX5_firstUntellable_15 : decode cX5_firstUntellable 15 = .ok (.aload_n 0, 1) := by decide +kernel
theorem dX5_firstUntellable_16 : decode cX5_firstUntellable 16 = .ok (.getfield 15, 3) := by decide +kernel
theorem dX5_firstUntellable_19 : decode cX5_firstUntellable 19 = .ok (.if_icmp .ge 26, 3) := by decide +kernel
theorem dX5_firstUntellable_22 : decode cX5_firstUntellable 22 = .ok (.aload_n 0, 1) := by decide +kernel
theorem dX5_firstUntellable_23 : decode cX5_firstUntellable 23 = .ok (.aload_n 1, 1) := by decide +kernel
theorem dX5_firstUntellable_24 : decode cX5_firstUntellable 24 = .ok (.iload_n 2, 1) := by decide +kernel
theorem dX5_firstUntellable_25 : decode cX5_firstUntellable 25 = .ok (.invokevirtual 27, 3) := by decide +kernel
theorem dX5_firstUntellable_28 : decode cX5_firstUntellable 28 = .ok (.ifCond .ne 5, 3) := by decide +kernel
theorem dX5_firstUntellable_31 : decode cX5_firstUntellable 31 = .ok (.iload_n 2, 1) := by decide +kernel
theorem dX5_firstUntellable_32 : decode cX5_firstUntellable 32 = .ok (.ireturn, 1) := by decide +kernel
theorem dX5_firstUntellable_33 : decode cX5_firstUntellable 33 = .ok (.aload_n 0, 1) := by decide +kernel
theorem dX5_firstUntellable_34 : decode cX5_firstUntellable 34 = .ok (.iload_n 2, 1) := by decide +kernel
theorem dX5_firstUntellable_35 : decode cX5_firstUntellable 35 = .ok (.invokevirtual 23, 3) := by decide +kernel
theorem dX5_firstUntellable_38 : decode cX5_firstUntellable 38 = .ok (.istore_n 2, 1) := by decide +kernel
theorem dX5_firstUntellable_39 : decode cX5_firstUntellable 39 = .ok (.iinc 3 1, 3) := by decide +kernel
theorem dX5_firstUntellable_42 : decode cX5_firstUntellable 42 = .ok (.goto (-38), 3) := by decide +kernel
theorem dX5_firstUntellable_45 : decode cX5_firstUntellable 45 = .ok (.iconst (-1), 1) := by decide +kernel
theorem dX5_firstUntellable_46 : decode cX5_firstUntellable 46 = .ok (.ireturn, 1) := by decide +kernel
theorem dX5_statements_0 : decode cX5_statements 0 = .ok (.iconst 0, 1) := by decide +kernel
theorem dX5_statements_1 : decode cX5_statements 1 = .ok (.istore_n 1, 1) := by decide +kernel
theorem dX5_statements_2 : decode cX5_statements 2 = .ok (.iconst 0, 1) := by decide +kernel
theorem dX5_statements_3 : decode cX5_statements 3 = .ok (.istore_n 2, 1) := by decide +kernel
theorem dX5_statements_4 : decode cX5_statements 4 = .ok (.iload_n 2, 1) := by decide +kernel
theorem dX5_statements_5 : decode cX5_statements 5 = .ok (.aload_n 0, 1) := by decide +kernel
theorem dX5_statements_6 : decode cX5_statements 6 = .ok (.getfield 15, 3) := by decide +kernel
theorem dX5_statements_9 : decode cX5_statements 9 = .ok (.if_icmp .ge 22, 3) := by decide +kernel
theorem dX5_statements_12 : decode cX5_statements 12 = .ok (.aload_n 0, 1) := by decide +kernel
theorem dX5_statements_13 : decode cX5_statements 13 = .ok (.iload_n 2, 1) := by decide +kernel
theorem dX5_statements_14 : decode cX5_statements 14 = .ok (.invokevirtual 31, 3) := by decide +kernel
theorem dX5_statements_17 : decode cX5_statements 17 = .ok (.bipush 59, 2) := by decide +kernel
theorem dX5_statements_19 : decode cX5_statements 19 = .ok (.if_icmp .ne 6, 3) := by decide +kernel
theorem dX5_statements_22 : decode cX5_statements 22 = .ok (.iinc 1 1, 3) := by decide +kernel
theorem dX5_statements_25 : decode cX5_statements 25 = .ok (.iinc 2 1, 3) := by decide +kernel
theorem dX5_statements_28 : decode cX5_statements 28 = .ok (.goto (-24), 3) := by decide +kernel
theorem dX5_statements_31 : decode cX5_statements 31 = .ok (.iload_n 1, 1) := by decide +kernel
theorem dX5_statements_32 : decode cX5_statements 32 = .ok (.ireturn, 1) := by decide +kernel
theorem dX5_endOfStatement_0 : decode cX5_endOfStatement 0 = .ok (.aload_n 0, 1) := by decide +kernel
theorem dX5_endOfStatement_1 : decode cX5_endOfStatement 1 = .ok (.iload_n 1, 1) := by decide +kernel
theorem dX5_endOfStatement_2 : decode cX5_endOfStatement 2 = .ok (.invokevirtual 31, 3) := by decide +kernel
theorem dX5_endOfStatement_5 : decode cX5_endOfStatement 5 = .ok (.invokestatic 34, 3) := by decide +kernel
theorem dX5_endOfStatement_8 : decode cX5_endOfStatement 8 = .ok (.astore_n 2, 1) := by decide +kernel
theorem dX5_endOfStatement_9 : decode cX5_endOfStatement 9 = .ok (.aload_n 2, 1) := by decide +kernel
theorem dX5_endOfStatement_10 : decode cX5_endOfStatement 10 = .ok (.invokevirtual 38, 3) := by decide +kernel
theorem dX5_endOfStatement_13 : decode cX5_endOfStatement 13 = .ok (.ifCond .eq 7, 3) := by decide +kernel
theorem dX5_endOfStatement_16 : decode cX5_endOfStatement 16 = .ok (.iconst (-1), 1) := by decide +kernel
theorem dX5_endOfStatement_17 : decode cX5_endOfStatement 17 = .ok (.iload_n 1, 1) := by decide +kernel
theorem dX5_endOfStatement_18 : decode cX5_endOfStatement 18 = .ok (.isub, 1) := by decide +kernel
theorem dX5_endOfStatement_19 : decode cX5_endOfStatement 19 = .ok (.ireturn, 1) := by decide +kernel
theorem dX5_endOfStatement_20 : decode cX5_endOfStatement 20 = .ok (.iload_n 1, 1) := by decide +kernel
theorem dX5_endOfStatement_21 : decode cX5_endOfStatement 21 = .ok (.iconst 1, 1) := by decide +kernel
theorem dX5_endOfStatement_22 : decode cX5_endOfStatement 22 = .ok (.iadd, 1) := by decide +kernel
theorem dX5_endOfStatement_23 : decode cX5_endOfStatement 23 = .ok (.istore_n 3, 1) := by decide +kernel
theorem dX5_endOfStatement_24 : decode cX5_endOfStatement 24 = .ok (.iconst 0, 1) := by decide +kernel
theorem dX5_endOfStatement_25 : decode cX5_endOfStatement 25 = .ok (.istore 4, 2) := by decide +kernel
theorem dX5_endOfStatement_27 : decode cX5_endOfStatement 27 = .ok (.iload 4, 2) := by decide +kernel
theorem dX5_endOfStatement_29 : decode cX5_endOfStatement 29 = .ok (.aload_n 2, 1) := by decide +kernel
theorem dX5_endOfStatement_30 : decode cX5_endOfStatement 30 = .ok (.invokevirtual 43, 3) := by decide +kernel
theorem dX5_endOfStatement_33 : decode cX5_endOfStatement 33 = .ok (.if_icmp .ge 47, 3) := by decide +kernel
theorem dX5_endOfStatement_36 : decode cX5_endOfStatement 36 = .ok (.aload_n 2, 1) := by decide +kernel
theorem dX5_endOfStatement_37 : decode cX5_endOfStatement 37 = .ok (.iload 4, 2) := by decide +kernel
theorem dX5_endOfStatement_39 : decode cX5_endOfStatement 39 = .ok (.invokevirtual 46, 3) := by decide +kernel
theorem dX5_endOfStatement_42 : decode cX5_endOfStatement 42 = .ok (.istore 5, 2) := by decide +kernel
theorem dX5_endOfStatement_44 : decode cX5_endOfStatement 44 = .ok (.iload 5, 2) := by decide +kernel
theorem dX5_endOfStatement_46 : decode cX5_endOfStatement 46 = .ok (.aload_n 0, 1) := by decide +kernel
theorem dX5_endOfStatement_47 : decode cX5_endOfStatement 47 = .ok (.iload_n 3, 1) := by decide +kernel
theorem dX5_endOfStatement_48 : decode cX5_endOfStatement 48 = .ok (.invokevirtual 31, 3) := by decide +kernel
theorem dX5_endOfStatement_51 : decode cX5_endOfStatement 51 = .ok (.invokestatic 50, 3) := by decide +kernel
theorem dX5_endOfStatement_54 : decode cX5_endOfStatement 54 = .ok (.ifCond .eq 9, 3) := by decide +kernel
theorem dX5_endOfStatement_57 : decode cX5_endOfStatement 57 = .ok (.iinc 3 1, 3) := by decide +kernel
theorem dX5_endOfStatement_60 : decode cX5_endOfStatement 60 = .ok (.goto 14, 3) := by decide +kernel
theorem dX5_endOfStatement_63 : decode cX5_endOfStatement 63 = .ok (.iload 5, 2) := by decide +kernel
theorem dX5_endOfStatement_65 : decode cX5_endOfStatement 65 = .ok (.bipush 63, 2) := by decide +kernel
theorem dX5_endOfStatement_67 : decode cX5_endOfStatement 67 = .ok (.if_icmp .eq 7, 3) := by decide +kernel
theorem dX5_endOfStatement_70 : decode cX5_endOfStatement 70 = .ok (.iconst (-1), 1) := by decide +kernel
theorem dX5_endOfStatement_71 : decode cX5_endOfStatement 71 = .ok (.iload_n 3, 1) := by decide +kernel
theorem dX5_endOfStatement_72 : decode cX5_endOfStatement 72 = .ok (.isub, 1) := by decide +kernel
theorem dX5_endOfStatement_73 : decode cX5_endOfStatement 73 = .ok (.ireturn, 1) := by decide +kernel
theorem dX5_endOfStatement_74 : decode cX5_endOfStatement 74 = .ok (.iinc 4 1, 3) := by decide +kernel
theorem dX5_endOfStatement_77 : decode cX5_endOfStatement 77 = .ok (.goto (-50), 3) := by decide +kernel
theorem dX5_endOfStatement_80 : decode cX5_endOfStatement 80 = .ok (.iload_n 3, 1) := by decide +kernel
theorem dX5_endOfStatement_81 : decode cX5_endOfStatement 81 = .ok (.ireturn, 1) := by decide +kernel
theorem dX5_formBehind_0 : decode cX5_formBehind 0 = .ok (.iload_n 0, 1) := by decide +kernel
theorem dX5_formBehind_1 : decode cX5_formBehind 1 = .ok (.lookupswitch 55 #[(100, 46), (104, 52), (108, 43), (111, 49)], 43) := by decide +kernel
theorem dX5_formBehind_44 : decode cX5_formBehind 44 = .ok (.ldc 54, 2) := by decide +kernel
theorem dX5_formBehind_46 : decode cX5_formBehind 46 = .ok (.areturn, 1) := by decide +kernel
theorem dX5_formBehind_47 : decode cX5_formBehind 47 = .ok (.ldc 56, 2) := by decide +kernel
theorem dX5_formBehind_49 : decode cX5_formBehind 49 = .ok (.areturn, 1) := by decide +kernel
theorem dX5_formBehind_50 : decode cX5_formBehind 50 = .ok (.ldc 58, 2) := by decide +kernel
theorem dX5_formBehind_52 : decode cX5_formBehind 52 = .ok (.areturn, 1) := by decide +kernel
theorem dX5_formBehind_53 : decode cX5_formBehind 53 = .ok (.ldc 60, 2) := by decide +kernel
theorem dX5_formBehind_55 : decode cX5_formBehind 55 = .ok (.areturn, 1) := by decide +kernel
theorem dX5_formBehind_56 : decode cX5_formBehind 56 = .ok (.ldc 62, 2) := by decide +kernel
theorem dX5_formBehind_58 : decode cX5_formBehind 58 = .ok (.areturn, 1) := by decide +kernel
theorem dX5_fits_0 : decode cX5_fits 0 = .ok (.iload_n 0, 1) := by decide +kernel
theorem dX5_fits_1 : decode cX5_fits 1 = .ok (.lookupswitch 53 #[(57, 35), (63, 35), (107, 40)], 35) := by decide +kernel
theorem dX5_fits_36 : decode cX5_fits 36 = .ok (.iload_n 1, 1) := by decide +kernel
theorem dX5_fits_37 : decode cX5_fits 37 = .ok (.invokestatic 64, 3) := by decide +kernel
theorem dX5_fits_40 : decode cX5_fits 40 = .ok (.ireturn, 1) := by decide +kernel
theorem dX5_fits_41 : decode cX5_fits 41 = .ok (.iload_n 1, 1) := by decide +kernel
theorem dX5_fits_42 : decode cX5_fits 42 = .ok (.invokestatic 68, 3) := by decide +kernel
theorem dX5_fits_45 : decode cX5_fits 45 = .ok (.ifCond .lt 7, 3) := by decide +kernel
theorem dX5_fits_48 : decode cX5_fits 48 = .ok (.iconst 1, 1) := by decide +kernel
theorem dX5_fits_49 : decode cX5_fits 49 = .ok (.goto 4, 3) := by decide +kernel
theorem dX5_fits_52 : decode cX5_fits 52 = .ok (.iconst 0, 1) := by decide +kernel
theorem dX5_fits_53 : decode cX5_fits 53 = .ok (.ireturn, 1) := by decide +kernel
theorem dX5_fits_54 : decode cX5_fits 54 = .ok (.iload_n 1, 1) := by decide +kernel
theorem dX5_fits_55 : decode cX5_fits 55 = .ok (.iload_n 0, 1) := by decide +kernel
theorem dX5_fits_56 : decode cX5_fits 56 = .ok (.if_icmp .ne 7, 3) := by decide +kernel
theorem dX5_fits_59 : decode cX5_fits 59 = .ok (.iconst 1, 1) := by decide +kernel
theorem dX5_fits_60 : decode cX5_fits 60 = .ok (.goto 4, 3) := by decide +kernel
theorem dX5_fits_63 : decode cX5_fits 63 = .ok (.iconst 0, 1) := by decide +kernel
theorem dX5_fits_64 : decode cX5_fits 64 = .ok (.ireturn, 1) := by decide +kernel
theorem dX5_tell_0 : decode cX5_tell 0 = .ok (.aload_n 0, 1) := by decide +kernel
theorem dX5_tell_1 : decode cX5_tell 1 = .ok (.iload_n 2, 1) := by decide +kernel
theorem dX5_tell_2 : decode cX5_tell 2 = .ok (.invokevirtual 31, 3) := by decide +kernel
theorem dX5_tell_5 : decode cX5_tell 5 = .ok (.lookupswitch 115 #[(100, 62), (104, 103), (108, 43), (111, 91)], 43) := by decide +kernel
theorem dX5_tell_48 : decode cX5_tell 48 = .ok (.aload_n 1, 1) := by decide +kernel
theorem dX5_tell_49 : decode cX5_tell 49 = .ok (.aload_n 0, 1) := by decide +kernel
theorem dX5_tell_50 : decode cX5_tell 50 = .ok (.iload_n 2, 1) := by decide +kernel
theorem dX5_tell_51 : decode cX5_tell 51 = .ok (.iconst 1, 1) := by decide +kernel
theorem dX5_tell_52 : decode cX5_tell 52 = .ok (.iadd, 1) := by decide +kernel
theorem dX5_tell_53 : decode cX5_tell 53 = .ok (.invokevirtual 71, 3) := by decide +kernel
theorem dX5_tell_56 : decode cX5_tell 56 = .ok (.aload_n 0, 1) := by decide +kernel
theorem dX5_tell_57 : decode cX5_tell 57 = .ok (.iload_n 2, 1) := by decide +kernel
theorem dX5_tell_58 : decode cX5_tell 58 = .ok (.iconst 2, 1) := by decide +kernel
theorem dX5_tell_59 : decode cX5_tell 59 = .ok (.iadd, 1) := by decide +kernel
theorem dX5_tell_60 : decode cX5_tell 60 = .ok (.invokevirtual 71, 3) := by decide +kernel
theorem dX5_tell_63 : decode cX5_tell 63 = .ok (.invokevirtual 74, 3) := by decide +kernel
theorem dX5_tell_66 : decode cX5_tell 66 = .ok (.ireturn, 1) := by decide +kernel
theorem dX5_tell_67 : decode cX5_tell 67 = .ok (.aload_n 1, 1) := by decide +kernel
theorem dX5_tell_68 : decode cX5_tell 68 = .ok (.aload_n 0, 1) := by decide +kernel
theorem dX5_tell_69 : decode cX5_tell 69 = .ok (.iload_n 2, 1) := by decide +kernel
theorem dX5_tell_70 : decode cX5_tell 70 = .ok (.iconst 1, 1) := by decide +kernel
theorem dX5_tell_71 : decode cX5_tell 71 = .ok (.iadd, 1) := by decide +kernel
theorem dX5_tell_72 : decode cX5_tell 72 = .ok (.invokevirtual 31, 3) := by decide +kernel
theorem dX5_tell_75 : decode cX5_tell 75 = .ok (.invokestatic 68, 3) := by decide +kernel
theorem dX5_tell_78 : decode cX5_tell 78 = .ok (.aload_n 0, 1) := by decide +kernel
theorem dX5_tell_79 : decode cX5_tell 79 = .ok (.iload_n 2, 1) := by decide +kernel
theorem dX5_tell_80 : decode cX5_tell 80 = .ok (.iconst 2, 1) := by decide +kernel
theorem dX5_tell_81 : decode cX5_tell 81 = .ok (.iadd, 1) := by decide +kernel
theorem dX5_tell_82 : decode cX5_tell 82 = .ok (.invokevirtual 71, 3) := by decide +kernel
theorem dX5_tell_85 : decode cX5_tell 85 = .ok (.aload_n 0, 1) := by decide +kernel
theorem dX5_tell_86 : decode cX5_tell 86 = .ok (.iload_n 2, 1) := by decide +kernel
theorem dX5_tell_87 : decode cX5_tell 87 = .ok (.iconst 3, 1) := by decide +kernel
theorem dX5_tell_88 : decode cX5_tell 88 = .ok (.iadd, 1) := by decide +kernel
theorem dX5_tell_89 : decode cX5_tell 89 = .ok (.invokevirtual 71, 3) := by decide +kernel
theorem dX5_tell_92 : decode cX5_tell 92 = .ok (.invokevirtual 80, 3) := by decide +kernel
theorem dX5_tell_95 : decode cX5_tell 95 = .ok (.ireturn, 1) := by decide +kernel
theorem dX5_tell_96 : decode cX5_tell 96 = .ok (.aload_n 1, 1) := by decide +kernel
theorem dX5_tell_97 : decode cX5_tell 97 = .ok (.aload_n 0, 1) := by decide +kernel
theorem dX5_tell_98 : decode cX5_tell 98 = .ok (.iload_n 2, 1) := by decide +kernel
theorem dX5_tell_99 : decode cX5_tell 99 = .ok (.iconst 1, 1) := by decide +kernel
theorem dX5_tell_100 : decode cX5_tell 100 = .ok (.iadd, 1) := by decide +kernel
theorem dX5_tell_101 : decode cX5_tell 101 = .ok (.invokevirtual 71, 3) := by decide +kernel
theorem dX5_tell_104 : decode cX5_tell 104 = .ok (.invokevirtual 84, 3) := by decide +kernel
theorem dX5_tell_107 : decode cX5_tell 107 = .ok (.ireturn, 1) := by decide +kernel
theorem dX5_tell_108 : decode cX5_tell 108 = .ok (.aload_n 1, 1) := by decide +kernel
theorem dX5_tell_109 : decode cX5_tell 109 = .ok (.aload_n 0, 1) := by decide +kernel
theorem dX5_tell_110 : decode cX5_tell 110 = .ok (.iload_n 2, 1) := by decide +kernel
theorem dX5_tell_111 : decode cX5_tell 111 = .ok (.iconst 1, 1) := by decide +kernel
theorem dX5_tell_112 : decode cX5_tell 112 = .ok (.iadd, 1) := by decide +kernel
theorem dX5_tell_113 : decode cX5_tell 113 = .ok (.invokevirtual 87, 3) := by decide +kernel
theorem dX5_tell_116 : decode cX5_tell 116 = .ok (.invokevirtual 90, 3) := by decide +kernel
theorem dX5_tell_119 : decode cX5_tell 119 = .ok (.ireturn, 1) := by decide +kernel
theorem dX5_tell_120 : decode cX5_tell 120 = .ok (.iconst 0, 1) := by decide +kernel
theorem dX5_tell_121 : decode cX5_tell 121 = .ok (.ireturn, 1) := by decide +kernel
theorem dX5_signAt_0 : decode cX5_signAt 0 = .ok (.iload_n 1, 1) := by decide +kernel
theorem dX5_signAt_1 : decode cX5_signAt 1 = .ok (.ifCond .lt 29, 3) := by decide +kernel
theorem dX5_signAt_4 : decode cX5_signAt 4 = .ok (.iload_n 1, 1) := by decide +kernel
theorem dX5_signAt_5 : decode cX5_signAt 5 = .ok (.aload_n 0, 1) := by decide +kernel
theorem dX5_signAt_6 : decode cX5_signAt 6 = .ok (.getfield 15, 3) := by decide +kernel
theorem dX5_signAt_9 : decode cX5_signAt 9 = .ok (.if_icmp .ge 21, 3) := by decide +kernel
theorem dX5_signAt_12 : decode cX5_signAt 12 = .ok (.iload_n 1, 1) := by decide +kernel
theorem dX5_signAt_13 : decode cX5_signAt 13 = .ok (.aload_n 0, 1) := by decide +kernel
theorem dX5_signAt_14 : decode cX5_signAt 14 = .ok (.getfield 9, 3) := by decide +kernel
theorem dX5_signAt_17 : decode cX5_signAt 17 = .ok (.arraylength, 1) := by decide +kernel
theorem dX5_signAt_18 : decode cX5_signAt 18 = .ok (.if_icmp .ge 12, 3) := by decide +kernel
theorem dX5_signAt_21 : decode cX5_signAt 21 = .ok (.aload_n 0, 1) := by decide +kernel
theorem dX5_signAt_22 : decode cX5_signAt 22 = .ok (.getfield 9, 3) := by decide +kernel
theorem dX5_signAt_25 : decode cX5_signAt 25 = .ok (.iload_n 1, 1) := by decide +kernel
theorem dX5_signAt_26 : decode cX5_signAt 26 = .ok (.iaload, 1) := by decide +kernel
theorem dX5_signAt_27 : decode cX5_signAt 27 = .ok (.goto 4, 3) := by decide +kernel
theorem dX5_signAt_30 : decode cX5_signAt 30 = .ok (.iconst (-1), 1) := by decide +kernel
theorem dX5_signAt_31 : decode cX5_signAt 31 = .ok (.ireturn, 1) := by decide +kernel
theorem dX5_digitAt_0 : decode cX5_digitAt 0 = .ok (.aload_n 0, 1) := by decide +kernel
theorem dX5_digitAt_1 : decode cX5_digitAt 1 = .ok (.iload_n 1, 1) := by decide +kernel
theorem dX5_digitAt_2 : decode cX5_digitAt 2 = .ok (.invokevirtual 31, 3) := by decide +kernel
theorem dX5_digitAt_5 : decode cX5_digitAt 5 = .ok (.bipush 48, 2) := by decide +kernel
theorem dX5_digitAt_7 : decode cX5_digitAt 7 = .ok (.isub, 1) := by decide +kernel
theorem dX5_digitAt_8 : decode cX5_digitAt 8 = .ok (.ireturn, 1) := by decide +kernel
theorem dX5_numberAt_0 : decode cX5_numberAt 0 = .ok (.aload_n 0, 1) := by decide +kernel
theorem dX5_numberAt_1 : decode cX5_numberAt 1 = .ok (.iload_n 1, 1) := by decide +kernel
theorem dX5_numberAt_2 : decode cX5_numberAt 2 = .ok (.invokevirtual 71, 3) := by decide +kernel
theorem dX5_numberAt_5 : decode cX5_numberAt 5 = .ok (.istore_n 2, 1) := by decide +kernel
theorem dX5_numberAt_6 : decode cX5_numberAt 6 = .ok (.aload_n 0, 1) := by decide +kernel
theorem dX5_numberAt_7 : decode cX5_numberAt 7 = .ok (.iload_n 1, 1) := by decide +kernel
theorem dX5_numberAt_8 : decode cX5_numberAt 8 = .ok (.iconst 1, 1) := by decide +kernel
theorem dX5_numberAt_9 : decode cX5_numberAt 9 = .ok (.iadd, 1) := by decide +kernel
theorem dX5_numberAt_10 : decode cX5_numberAt 10 = .ok (.invokevirtual 31, 3) := by decide +kernel
theorem dX5_numberAt_13 : decode cX5_numberAt 13 = .ok (.invokestatic 64, 3) := by decide +kernel
theorem dX5_numberAt_16 : decode cX5_numberAt 16 = .ok (.ifCond .eq 18, 3) := by decide +kernel
theorem dX5_numberAt_19 : decode cX5_numberAt 19 = .ok (.bipush 10, 2) := by decide +kernel
theorem dX5_numberAt_21 : decode cX5_numberAt 21 = .ok (.iload_n 2, 1) := by decide +kernel
theorem dX5_numberAt_22 : decode cX5_numberAt 22 = .ok (.imul, 1) := by decide +kernel
theorem dX5_numberAt_23 : decode cX5_numberAt 23 = .ok (.aload_n 0, 1) := by decide +kernel
theorem dX5_numberAt_24 : decode cX5_numberAt 24 = .ok (.iload_n 1, 1) := by decide +kernel
theorem dX5_numberAt_25 : decode cX5_numberAt 25 = .ok (.iconst 1, 1) := by decide +kernel
theorem dX5_numberAt_26 : decode cX5_numberAt 26 = .ok (.iadd, 1) := by decide +kernel
theorem dX5_numberAt_27 : decode cX5_numberAt 27 = .ok (.invokevirtual 71, 3) := by decide +kernel
theorem dX5_numberAt_30 : decode cX5_numberAt 30 = .ok (.iadd, 1) := by decide +kernel
theorem dX5_numberAt_31 : decode cX5_numberAt 31 = .ok (.goto 4, 3) := by decide +kernel
theorem dX5_numberAt_34 : decode cX5_numberAt 34 = .ok (.iload_n 2, 1) := by decide +kernel
theorem dX5_numberAt_35 : decode cX5_numberAt 35 = .ok (.ireturn, 1) := by decide +kernel
theorem dX5_isDigit_0 : decode cX5_isDigit 0 = .ok (.iload_n 0, 1) := by decide +kernel
theorem dX5_isDigit_1 : decode cX5_isDigit 1 = .ok (.bipush 48, 2) := by decide +kernel
theorem dX5_isDigit_3 : decode cX5_isDigit 3 = .ok (.if_icmp .lt 13, 3) := by decide +kernel
theorem dX5_isDigit_6 : decode cX5_isDigit 6 = .ok (.iload_n 0, 1) := by decide +kernel
theorem dX5_isDigit_7 : decode cX5_isDigit 7 = .ok (.bipush 57, 2) := by decide +kernel
theorem dX5_isDigit_9 : decode cX5_isDigit 9 = .ok (.if_icmp .gt 7, 3) := by decide +kernel
theorem dX5_isDigit_12 : decode cX5_isDigit 12 = .ok (.iconst 1, 1) := by decide +kernel
theorem dX5_isDigit_13 : decode cX5_isDigit 13 = .ok (.goto 4, 3) := by decide +kernel
theorem dX5_isDigit_16 : decode cX5_isDigit 16 = .ok (.iconst 0, 1) := by decide +kernel
theorem dX5_isDigit_17 : decode cX5_isDigit 17 = .ok (.ireturn, 1) := by decide +kernel
theorem dX5_kindOf_0 : decode cX5_kindOf 0 = .ok (.iload_n 0, 1) := by decide +kernel
theorem dX5_kindOf_1 : decode cX5_kindOf 1 = .ok (.ifCond .lt 20, 3) := by decide +kernel
theorem dX5_kindOf_4 : decode cX5_kindOf 4 = .ok (.iload_n 0, 1) := by decide +kernel
theorem dX5_kindOf_5 : decode cX5_kindOf 5 = .ok (.sipush 255, 3) := by decide +kernel
theorem dX5_kindOf_8 : decode cX5_kindOf 8 = .ok (.if_icmp .gt 13, 3) := by decide +kernel
theorem dX5_kindOf_11 : decode cX5_kindOf 11 = .ok (.ldc 93, 2) := by decide +kernel
theorem dX5_kindOf_13 : decode cX5_kindOf 13 = .ok (.iload_n 0, 1) := by decide +kernel
theorem dX5_kindOf_14 : decode cX5_kindOf 14 = .ok (.i2c, 1) := by decide +kernel
theorem dX5_kindOf_15 : decode cX5_kindOf 15 = .ok (.invokevirtual 95, 3) := by decide +kernel
theorem dX5_kindOf_18 : decode cX5_kindOf 18 = .ok (.goto 4, 3) := by decide +kernel
theorem dX5_kindOf_21 : decode cX5_kindOf 21 = .ok (.iconst (-1), 1) := by decide +kernel
theorem dX5_kindOf_22 : decode cX5_kindOf 22 = .ok (.ireturn, 1) := by decide +kernel
theorem dX6_init_0 : decode cX6_init 0 = .ok (.aload_n 0, 1) := by decide +kernel
theorem dX6_init_1 : decode cX6_init 1 = .ok (.invokespecial 3, 3) := by decide +kernel
theorem dX6_init_4 : decode cX6_init 4 = .ok (.aload_n 0, 1) := by decide +kernel
theorem dX6_init_5 : decode cX6_init 5 = .ok (.bipush 6, 2) := by decide +kernel
theorem dX6_init_7 : decode cX6_init 7 = .ok (.anewarray 9, 3) := by decide +kernel
theorem dX6_init_10 : decode cX6_init 10 = .ok (.dup, 1) := by decide +kernel
theorem dX6_init_11 : decode cX6_init 11 = .ok (.iconst 0, 1) := by decide +kernel
theorem dX6_init_12 : decode cX6_init 12 = .ok (.new 9, 3) := by decide +kernel
theorem dX6_init_15 : decode cX6_init 15 = .ok (.dup, 1) := by decide +kernel
theorem dX6_init_16 : decode cX6_init 16 = .ok (.invokespecial 11, 3) := by decide +kernel
theorem dX6_init_19 : decode cX6_init 19 = .ok (.aastore, 1) := by decide +kernel
theorem dX6_init_20 : decode cX6_init 20 = .ok (.dup, 1) := by decide +kernel
theorem dX6_init_21 : decode cX6_init 21 = .ok (.iconst 1, 1) := by decide +kernel
theorem dX6_init_22 : decode cX6_init 22 = .ok (.new 12, 3) := by decide +kernel
theorem dX6_init_25 : decode cX6_init 25 = .ok (.dup, 1) := by decide +kernel
theorem dX6_init_26 : decode cX6_init 26 = .ok (.invokespecial 14, 3) := by decide +kernel
theorem dX6_init_29 : decode cX6_init 29 = .ok (.aastore, 1) := by decide +kernel
theorem dX6_init_30 : decode cX6_init 30 = .ok (.dup, 1) := by decide +kernel
theorem dX6_init_31 : decode cX6_init 31 = .ok (.iconst 2, 1) := by decide +kernel
theorem dX6_init_32 : decode cX6_init 32 = .ok (.new 15, 3) := by decide +kernel
theorem dX6_init_35 : decode cX6_init 35 = .ok (.dup, 1) := by decide +kernel
theorem dX6_init_36 : decode cX6_init 36 = .ok (.invokespecial 17, 3) := by decide +kernel
theorem dX6_init_39 : decode cX6_init 39 = .ok (.aastore, 1) := by decide +kernel
theorem dX6_init_40 : decode cX6_init 40 = .ok (.dup, 1) := by decide +kernel
theorem dX6_init_41 : decode cX6_init 41 = .ok (.iconst 3, 1) := by decide +kernel
theorem dX6_init_42 : decode cX6_init 42 = .ok (.new 18, 3) := by decide +kernel
theorem dX6_init_45 : decode cX6_init 45 = .ok (.dup, 1) := by decide +kernel
theorem dX6_init_46 : decode cX6_init 46 = .ok (.invokespecial 20, 3) := by decide +kernel
theorem dX6_init_49 : decode cX6_init 49 = .ok (.aastore, 1) := by decide +kernel
theorem dX6_init_50 : decode cX6_init 50 = .ok (.dup, 1) := by decide +kernel
theorem dX6_init_51 : decode cX6_init 51 = .ok (.iconst 4, 1) := by decide +kernel
theorem dX6_init_52 : decode cX6_init 52 = .ok (.new 21, 3) := by decide +kernel
theorem dX6_init_55 : decode cX6_init 55 = .ok (.dup, 1) := by decide +kernel
theorem dX6_init_56 : decode cX6_init 56 = .ok (.invokespecial 23, 3) := by decide +kernel
theorem dX6_init_59 : decode cX6_init 59 = .ok (.aastore, 1) := by decide +kernel
theorem dX6_init_60 : decode cX6_init 60 = .ok (.dup, 1) := by decide +kernel
theorem dX6_init_61 : decode cX6_init 61 = .ok (.iconst 5, 1) := by decide +kernel
theorem dX6_init_62 : decode cX6_init 62 = .ok (.new 24, 3) := by decide +kernel
theorem dX6_init_65 : decode cX6_init 65 = .ok (.dup, 1) := by decide +kernel
theorem dX6_init_66 : decode cX6_init 66 = .ok (.invokespecial 26, 3) := by decide +kernel
theorem dX6_init_69 : decode cX6_init 69 = .ok (.aastore, 1) := by decide +kernel
theorem dX6_init_70 : decode cX6_init 70 = .ok (.putfield 27, 3) := by decide +kernel
theorem dX6_init_73 : decode cX6_init 73 = .ok (.aload_n 0, 1) := by decide +kernel
theorem dX6_init_74 : decode cX6_init 74 = .ok (.bipush 6, 2) := by decide +kernel
theorem dX6_init_76 : decode cX6_init 76 = .ok (.newarray .int, 2) := by decide +kernel
theorem dX6_init_78 : decode cX6_init 78 = .ok (.putfield 33, 3) := by decide +kernel
theorem dX6_init_81 : decode cX6_init 81 = .ok (.aload_n 0, 1) := by decide +kernel
theorem dX6_init_82 : decode cX6_init 82 = .ok (.bipush 6, 2) := by decide +kernel
theorem dX6_init_84 : decode cX6_init 84 = .ok (.newarray .int, 2) := by decide +kernel
theorem dX6_init_86 : decode cX6_init 86 = .ok (.putfield 37, 3) := by decide +kernel
theorem dX6_init_89 : decode cX6_init 89 = .ok (.aload_n 0, 1) := by decide +kernel
theorem dX6_init_90 : decode cX6_init 90 = .ok (.bipush 8, 2) := by decide +kernel
theorem dX6_init_92 : decode cX6_init 92 = .ok (.newarray .int, 2) := by decide +kernel
theorem dX6_init_94 : decode cX6_init 94 = .ok (.putfield 40, 3) := by decide +kernel
theorem dX6_init_97 : decode cX6_init 97 = .ok (.aload_n 0, 1) := by decide +kernel
theorem dX6_init_98 : decode cX6_init 98 = .ok (.bipush 8, 2) := by decide +kernel
theorem dX6_init_100 : decode cX6_init 100 = .ok (.newarray .int, 2) := by decide +kernel
theorem dX6_init_102 : decode cX6_init 102 = .ok (.putfield 43, 3) := by decide +kernel
theorem dX6_init_105 : decode cX6_init 105 = .ok (.aload_n 0, 1) := by decide +kernel
theorem dX6_init_106 : decode cX6_init 106 = .ok (.bipush 8, 2) := by decide +kernel
theorem dX6_init_108 : decode cX6_init 108 = .ok (.newarray .int, 2) := by decide +kernel
theorem dX6_init_110 : decode cX6_init 110 = .ok (.putfield 46, 3) := by decide +kernel
theorem dX6_init_113 : decode cX6_init 113 = .ok (.aload_n 0, 1) := by decide +kernel
theorem dX6_init_114 : decode cX6_init 114 = .ok (.bipush 8, 2) := by decide +kernel
theorem dX6_init_116 : decode cX6_init 116 = .ok (.newarray .int, 2) := by decide +kernel
theorem dX6_init_118 : decode cX6_init 118 = .ok (.putfield 49, 3) := by decide +kernel
theorem dX6_init_121 : decode cX6_init 121 = .ok (.aload_n 0, 1) := by decide +kernel
theorem dX6_init_122 : decode cX6_init 122 = .ok (.bipush 8, 2) := by decide +kernel
theorem dX6_init_124 : decode cX6_init 124 = .ok (.newarray .int, 2) := by decide +kernel
theorem dX6_init_126 : decode cX6_init 126 = .ok (.putfield 52, 3) := by decide +kernel
theorem dX6_init_129 : decode cX6_init 129 = .ok (.aload_n 0, 1) := by decide +kernel
theorem dX6_init_130 : decode cX6_init 130 = .ok (.iconst 0, 1) := by decide +kernel
theorem dX6_init_131 : decode cX6_init 131 = .ok (.putfield 55, 3) := by decide +kernel
theorem dX6_init_134 : decode cX6_init 134 = .ok (.aload_n 0, 1) := by decide +kernel
theorem dX6_init_135 : decode cX6_init 135 = .ok (.iconst 0, 1) := by decide +kernel
theorem dX6_init_136 : decode cX6_init 136 = .ok (.putfield 59, 3) := by decide +kernel
theorem dX6_init_139 : decode cX6_init 139 = .ok (.aload_n 0, 1) := by decide +kernel
theorem dX6_init_140 : decode cX6_init 140 = .ok (.iconst 0, 1) := by decide +kernel
theorem dX6_init_141 : decode cX6_init 141 = .ok (.putfield 62, 3) := by decide +kernel
theorem dX6_init_144 : decode cX6_init 144 = .ok (.aload_n 0, 1) := by decide +kernel
theorem dX6_init_145 : decode cX6_init 145 = .ok (.bipush 20, 2) := by decide +kernel
theorem dX6_init_147 : decode cX6_init 147 = .ok (.putfield 65, 3) := by decide +kernel
theorem dX6_init_150 : decode cX6_init 150 = .ok (.aload_n 0, 1) := by decide +kernel
theorem dX6_init_151 : decode cX6_init 151 = .ok (.iconst 0, 1) := by decide +kernel
theorem dX6_init_152 : decode cX6_init 152 = .ok (.putfield 68, 3) := by decide +kernel
theorem dX6_init_155 : decode cX6_init 155 = .ok (.return_, 1) := by decide +kernel
theorem dX6_become_0 : decode cX6_become 0 = .ok (.aload_n 1, 1) := by decide +kernel
theorem dX6_become_1 : decode cX6_become 1 = .ok (.getfield 33, 3) := by decide +kernel
theorem dX6_become_4 : decode cX6_become 4 = .ok (.iconst 0, 1) := by decide +kernel
theorem dX6_become_5 : decode cX6_become 5 = .ok (.aload_n 0, 1) := by decide +kernel
theorem dX6_become_6 : decode cX6_become 6 = .ok (.getfield 33, 3) := by decide +kernel
theorem dX6_become_9 : decode cX6_become 9 = .ok (.iconst 0, 1) := by decide +kernel
theorem dX6_become_10 : decode cX6_become 10 = .ok (.bipush 6, 2) := by decide +kernel
theorem dX6_become_12 : decode cX6_become 12 = .ok (.invokestatic 71, 3) := by decide +kernel
theorem dX6_become_15 : decode cX6_become 15 = .ok (.aload_n 1, 1) := by decide +kernel
theorem dX6_become_16 : decode cX6_become 16 = .ok (.getfield 37, 3) := by decide +kernel
theorem dX6_become_19 : decode cX6_become 19 = .ok (.iconst 0, 1) := by decide +kernel
theorem dX6_become_20 : decode cX6_become 20 = .ok (.aload_n 0, 1) := by decide +kernel
theorem dX6_become_21 : decode cX6_become 21 = .ok (.getfield 37, 3) := by decide +kernel
theorem dX6_become_24 : decode cX6_become 24 = .ok (.iconst 0, 1) := by decide +kernel
theorem dX6_become_25 : decode cX6_become 25 = .ok (.bipush 6, 2) := by decide +kernel
theorem dX6_become_27 : decode cX6_become 27 = .ok (.invokestatic 71, 3) := by decide +kernel
theorem dX6_become_30 : decode cX6_become 30 = .ok (.aload_n 1, 1) := by decide +kernel
theorem dX6_become_31 : decode cX6_become 31 = .ok (.getfield 40, 3) := by decide +kernel
theorem dX6_become_34 : decode cX6_become 34 = .ok (.iconst 0, 1) := by decide +kernel
theorem dX6_become_35 : decode cX6_become 35 = .ok (.aload_n 0, 1) := by decide +kernel
theorem dX6_become_36 : decode cX6_become 36 = .ok (.getfield 40, 3) := by decide +kernel
theorem dX6_become_39 : decode cX6_become 39 = .ok (.iconst 0, 1) := by decide +kernel
theorem dX6_become_40 : decode cX6_become 40 = .ok (.bipush 8, 2) := by decide +kernel
theorem dX6_become_42 : decode cX6_become 42 = .ok (.invokestatic 71, 3) := by decide +kernel
theorem dX6_become_45 : decode cX6_become 45 = .ok (.aload_n 1, 1) := by decide +kernel
theorem dX6_become_46 : decode cX6_become 46 = .ok (.getfield 43, 3) := by decide +kernel
theorem dX6_become_49 : decode cX6_become 49 = .ok (.iconst 0, 1) := by decide +kernel
theorem dX6_become_50 : decode cX6_become 50 = .ok (.aload_n 0, 1) := by decide +kernel
theorem dX6_become_51 : decode cX6_become 51 = .ok (.getfield 43, 3) := by decide +kernel
theorem dX6_become_54 : decode cX6_become 54 = .ok (.iconst 0, 1) := by decide +kernel
theorem dX6_become_55 : decode cX6_become 55 = .ok (.bipush 8, 2) := by decide +kernel
theorem dX6_become_57 : decode cX6_become 57 = .ok (.invokestatic 71, 3) := by decide +kernel
theorem dX6_become_60 : decode cX6_become 60 = .ok (.aload_n 1, 1) := by decide +kernel
theorem dX6_become_61 : decode cX6_become 61 = .ok (.getfield 46, 3) := by decide +kernel
theorem dX6_become_64 : decode cX6_become 64 = .ok (.iconst 0, 1) := by decide +kernel
theorem dX6_become_65 : decode cX6_become 65 = .ok (.aload_n 0, 1) := by decide +kernel
theorem dX6_become_66 : decode cX6_become 66 = .ok (.getfield 46, 3) := by decide +kernel
theorem dX6_become_69 : decode cX6_become 69 = .ok (.iconst 0, 1) := by decide +kernel
theorem dX6_become_70 : decode cX6_become 70 = .ok (.bipush 8, 2) := by decide +kernel
theorem dX6_become_72 : decode cX6_become 72 = .ok (.invokestatic 71, 3) := by decide +kernel
theorem dX6_become_75 : decode cX6_become 75 = .ok (.aload_n 1, 1) := by decide +kernel
theorem dX6_become_76 : decode cX6_become 76 = .ok (.getfield 49, 3) := by decide +kernel
theorem dX6_become_79 : decode cX6_become 79 = .ok (.iconst 0, 1) := by decide +kernel
theorem dX6_become_80 : decode cX6_become 80 = .ok (.aload_n 0, 1) := by decide +kernel
theorem dX6_become_81 : decode cX6_become 81 = .ok (.getfield 49, 3) := by decide +kernel
theorem dX6_become_84 : decode cX6_become 84 = .ok (.iconst 0, 1) := by decide +kernel
theorem dX6_become_85 : decode cX6_become 85 = .ok (.bipush 8, 2) := by decide +kernel
theorem dX6_become_87 : decode cX6_become 87 = .ok (.invokestatic 71, 3) := by decide +kernel
theorem dX6_become_90 : decode cX6_become 90 = .ok (.aload_n 1, 1) := by decide +kernel
theorem dX6_become_91 : decode cX6_become 91 = .ok (.getfield 52, 3) := by decide +kernel
theorem dX6_become_94 : decode cX6_become 94 = .ok (.iconst 0, 1) := by decide +kernel
theorem dX6_become_95 : decode cX6_become 95 = .ok (.aload_n 0, 1) := by decide +kernel
theorem dX6_become_96 : decode cX6_become 96 = .ok (.getfield 52, 3) := by decide +kernel
theorem dX6_become_99 : decode cX6_become 99 = .ok (.iconst 0, 1) := by decide +kernel
theorem dX6_become_100 : decode cX6_become 100 = .ok (.bipush 8, 2) := by decide +kernel
theorem dX6_become_102 : decode cX6_become 102 = .ok (.invokestatic 71, 3) := by decide +kernel
theorem dX6_become_105 : decode cX6_become 105 = .ok (.aload_n 0, 1) := by decide +kernel
theorem dX6_become_106 : decode cX6_become 106 = .ok (.aload_n 1, 1) := by decide +kernel
theorem dX6_become_107 : decode cX6_become 107 = .ok (.getfield 55, 3) := by decide +kernel
theorem dX6_become_110 : decode cX6_become 110 = .ok (.putfield 55, 3) := by decide +kernel
theorem dX6_become_113 : decode cX6_become 113 = .ok (.aload_n 0, 1) := by decide +kernel
theorem dX6_become_114 : decode cX6_become 114 = .ok (.aload_n 1, 1) := by decide +kernel
theorem dX6_become_115 : decode cX6_become 115 = .ok (.getfield 59, 3) := by decide +kernel
theorem dX6_become_118 : decode cX6_become 118 = .ok (.putfield 59, 3) := by decide +kernel
theorem dX6_become_121 : decode cX6_become 121 = .ok (.aload_n 0, 1) := by decide +kernel
theorem dX6_become_122 : decode cX6_become 122 = .ok (.aload_n 1, 1) := by decide +kernel
theorem dX6_become_123 : decode cX6_become 123 = .ok (.getfield 62, 3) := by decide +kernel
theorem dX6_become_126 : decode cX6_become 126 = .ok (.putfield 62, 3) := by decide +kernel
theorem dX6_become_129 : decode cX6_become 129 = .ok (.aload_n 0, 1) := by decide +kernel
theorem dX6_become_130 : decode cX6_become 130 = .ok (.aload_n 1, 1) := by decide +kernel
theorem dX6_become_131 : decode cX6_become 131 = .ok (.getfield 65, 3) := by decide +kernel
theorem dX6_become_134 : decode cX6_become 134 = .ok (.putfield 65, 3) := by decide +kernel
theorem dX6_become_137 : decode cX6_become 137 = .ok (.aload_n 0, 1) := by decide +kernel
theorem dX6_become_138 : decode cX6_become 138 = .ok (.aload_n 1, 1) := by decide +kernel
theorem dX6_become_139 : decode cX6_become 139 = .ok (.getfield 68, 3) := by decide +kernel
theorem dX6_become_142 : decode cX6_become 142 = .ok (.putfield 68, 3) := by decide +kernel
theorem dX6_become_145 : decode cX6_become 145 = .ok (.return_, 1) := by decide +kernel
theorem dX6_hasLoft_0 : decode cX6_hasLoft 0 = .ok (.iload_n 1, 1) := by decide +kernel
theorem dX6_hasLoft_1 : decode cX6_hasLoft 1 = .ok (.ifCond .lt 15, 3) := by decide +kernel
theorem dX6_hasLoft_4 : decode cX6_hasLoft 4 = .ok (.iload_n 1, 1) := by decide +kernel
theorem dX6_hasLoft_5 : decode cX6_hasLoft 5 = .ok (.aload_n 0, 1) := by decide +kernel
theorem dX6_hasLoft_6 : decode cX6_hasLoft 6 = .ok (.getfield 55, 3) := by decide +kernel
theorem dX6_hasLoft_9 : decode cX6_hasLoft 9 = .ok (.if_icmp .ge 7, 3) := by decide +kernel
theorem dX6_hasLoft_12 : decode cX6_hasLoft 12 = .ok (.iconst 1, 1) := by decide +kernel
theorem dX6_hasLoft_13 : decode cX6_hasLoft 13 = .ok (.goto 4, 3) := by decide +kernel
theorem dX6_hasLoft_16 : decode cX6_hasLoft 16 = .ok (.iconst 0, 1) := by decide +kernel
theorem dX6_hasLoft_17 : decode cX6_hasLoft 17 = .ok (.ireturn, 1) := by decide +kernel
theorem dX6_hasDove_0 : decode cX6_hasDove 0 = .ok (.iload_n 1, 1) := by decide +kernel
theorem dX6_hasDove_1 : decode cX6_hasDove 1 = .ok (.ifCond .lt 15, 3) := by decide +kernel
theorem dX6_hasDove_4 : decode cX6_hasDove 4 = .ok (.iload_n 1, 1) := by decide +kernel
theorem dX6_hasDove_5 : decode cX6_hasDove 5 = .ok (.aload_n 0, 1) := by decide +kernel
theorem dX6_hasDove_6 : decode cX6_hasDove 6 = .ok (.getfield 59, 3) := by decide +kernel
theorem dX6_hasDove_9 : decode cX6_hasDove 9 = .ok (.if_icmp .ge 7, 3) := by decide +kernel
theorem dX6_hasDove_12 : decode cX6_hasDove 12 = .ok (.iconst 1, 1) := by decide +kernel
theorem dX6_hasDove_13 : decode cX6_hasDove 13 = .ok (.goto 4, 3) := by decide +kernel
theorem dX6_hasDove_16 : decode cX6_hasDove 16 = .ok (.iconst 0, 1) := by decide +kernel
theorem dX6_hasDove_17 : decode cX6_hasDove 17 = .ok (.ireturn, 1) := by decide +kernel
theorem dX6_addLoft_0 : decode cX6_addLoft 0 = .ok (.aload_n 0, 1) := by decide +kernel
theorem dX6_addLoft_1 : decode cX6_addLoft 1 = .ok (.getfield 55, 3) := by decide +kernel
theorem dX6_addLoft_4 : decode cX6_addLoft 4 = .ok (.bipush 6, 2) := by decide +kernel
theorem dX6_addLoft_6 : decode cX6_addLoft 6 = .ok (.if_icmp .lt 5, 3) := by decide +kernel
theorem dX6_addLoft_9 : decode cX6_addLoft 9 = .ok (.iconst 0, 1) := by decide +kernel
theorem dX6_addLoft_10 : decode cX6_addLoft 10 = .ok (.ireturn, 1) := by decide +kernel
theorem dX6_addLoft_11 : decode cX6_addLoft 11 = .ok (.aload_n 0, 1) := by decide +kernel
theorem dX6_addLoft_12 : decode cX6_addLoft 12 = .ok (.getfield 33, 3) := by decide +kernel
theorem dX6_addLoft_15 : decode cX6_addLoft 15 = .ok (.aload_n 0, 1) := by decide +kernel
theorem dX6_addLoft_16 : decode cX6_addLoft 16 = .ok (.getfield 55, 3) := by decide +kernel
theorem dX6_addLoft_19 : decode cX6_addLoft 19 = .ok (.iload_n 1, 1) := by decide +kernel
theorem dX6_addLoft_20 : decode cX6_addLoft 20 = .ok (.iastore, 1) := by decide +kernel
theorem dX6_addLoft_21 : decode cX6_addLoft 21 = .ok (.aload_n 0, 1) := by decide +kernel
theorem dX6_addLoft_22 : decode cX6_addLoft 22 = .ok (.getfield 37, 3) := by decide +kernel
theorem dX6_addLoft_25 : decode cX6_addLoft 25 = .ok (.aload_n 0, 1) := by decide +kernel
theorem dX6_addLoft_26 : decode cX6_addLoft 26 = .ok (.getfield 55, 3) := by decide +kernel
theorem dX6_addLoft_29 : decode cX6_addLoft 29 = .ok (.iload_n 2, 1) := by decide +kernel
theorem dX6_addLoft_30 : decode cX6_addLoft 30 = .ok (.iastore, 1) := by decide +kernel
theorem dX6_addLoft_31 : decode cX6_addLoft 31 = .ok (.aload_n 0, 1) := by decide +kernel
theorem dX6_addLoft_32 : decode cX6_addLoft 32 = .ok (.dup, 1) := by decide +kernel
theorem dX6_addLoft_33 : decode cX6_addLoft 33 = .ok (.getfield 55, 3) := by decide +kernel
theorem dX6_addLoft_36 : decode cX6_addLoft 36 = .ok (.iconst 1, 1) := by decide +kernel
theorem dX6_addLoft_37 : decode cX6_addLoft 37 = .ok (.iadd, 1) := by decide +kernel
theorem dX6_addLoft_38 : decode cX6_addLoft 38 = .ok (.putfield 55, 3) := by decide +kernel
theorem dX6_addLoft_41 : decode cX6_addLoft 41 = .ok (.iconst 1, 1) := by decide +kernel
theorem dX6_addLoft_42 : decode cX6_addLoft 42 = .ok (.ireturn, 1) := by decide +kernel
theorem dX6_addDove_0 : decode cX6_addDove 0 = .ok (.aload_n 0, 1) := by decide +kernel
theorem dX6_addDove_1 : decode cX6_addDove 1 = .ok (.getfield 59, 3) := by decide +kernel
theorem dX6_addDove_4 : decode cX6_addDove 4 = .ok (.bipush 8, 2) := by decide +kernel
theorem dX6_addDove_6 : decode cX6_addDove 6 = .ok (.if_icmp .ge 11, 3) := by decide +kernel
theorem dX6_addDove_9 : decode cX6_addDove 9 = .ok (.aload_n 0, 1) := by decide +kernel
theorem dX6_addDove_10 : decode cX6_addDove 10 = .ok (.iload_n 2, 1) := by decide +kernel
theorem dX6_addDove_11 : decode cX6_addDove 11 = .ok (.invokevirtual 77, 3) := by decide +kernel
theorem dX6_addDove_14 : decode cX6_addDove 14 = .ok (.ifCond .ne 5, 3) := by decide +kernel
theorem dX6_addDove_17 : decode cX6_addDove 17 = .ok (.iconst 0, 1) := by decide +kernel
theorem dX6_addDove_18 : decode cX6_addDove 18 = .ok (.ireturn, 1) := by decide +kernel
theorem dX6_addDove_19 : decode cX6_addDove 19 = .ok (.aload_n 0, 1) := by decide +kernel
theorem dX6_addDove_20 : decode cX6_addDove 20 = .ok (.getfield 40, 3) := by decide +kernel
theorem dX6_addDove_23 : decode cX6_addDove 23 = .ok (.aload_n 0, 1) := by decide +kernel
theorem dX6_addDove_24 : decode cX6_addDove 24 = .ok (.getfield 59, 3) := by decide +kernel
theorem dX6_addDove_27 : decode cX6_addDove 27 = .ok (.iload_n 1, 1) := by decide +kernel
theorem dX6_addDove_28 : decode cX6_addDove 28 = .ok (.iastore, 1) := by decide +kernel
theorem dX6_addDove_29 : decode cX6_addDove 29 = .ok (.aload_n 0, 1) := by decide +kernel
theorem dX6_addDove_30 : decode cX6_addDove 30 = .ok (.getfield 43, 3) := by decide +kernel
theorem dX6_addDove_33 : decode cX6_addDove 33 = .ok (.aload_n 0, 1) := by decide +kernel
theorem dX6_addDove_34 : decode cX6_addDove 34 = .ok (.getfield 59, 3) := by decide +kernel
theorem dX6_addDove_37 : decode cX6_addDove 37 = .ok (.iload_n 2, 1) := by decide +kernel
theorem dX6_addDove_38 : decode cX6_addDove 38 = .ok (.iastore, 1) := by decide +kernel
theorem dX6_addDove_39 : decode cX6_addDove 39 = .ok (.aload_n 0, 1) := by decide +kernel
theorem dX6_addDove_40 : decode cX6_addDove 40 = .ok (.getfield 46, 3) := by decide +kernel
theorem dX6_addDove_43 : decode cX6_addDove 43 = .ok (.aload_n 0, 1) := by decide +kernel
theorem dX6_addDove_44 : decode cX6_addDove 44 = .ok (.getfield 59, 3) := by decide +kernel
theorem dX6_addDove_47 : decode cX6_addDove 47 = .ok (.iload_n 3, 1) := by decide +kernel
theorem dX6_addDove_48 : decode cX6_addDove 48 = .ok (.iastore, 1) := by decide +kernel
theorem dX6_addDove_49 : decode cX6_addDove 49 = .ok (.aload_n 0, 1) := by decide +kernel
theorem dX6_addDove_50 : decode cX6_addDove 50 = .ok (.getfield 49, 3) := by decide +kernel
theorem dX6_addDove_53 : decode cX6_addDove 53 = .ok (.aload_n 0, 1) := by decide +kernel
theorem dX6_addDove_54 : decode cX6_addDove 54 = .ok (.getfield 59, 3) := by decide +kernel
theorem dX6_addDove_57 : decode cX6_addDove 57 = .ok (.iload_n 2, 1) := by decide +kernel
theorem dX6_addDove_58 : decode cX6_addDove 58 = .ok (.iastore, 1) := by decide +kernel
theorem dX6_addDove_59 : decode cX6_addDove 59 = .ok (.aload_n 0, 1) := by decide +kernel
theorem dX6_addDove_60 : decode cX6_addDove 60 = .ok (.getfield 52, 3) := by decide +kernel
theorem dX6_addDove_63 : decode cX6_addDove 63 = .ok (.aload_n 0, 1) := by decide +kernel
theorem dX6_addDove_64 : decode cX6_addDove 64 = .ok (.getfield 59, 3) := by decide +kernel
theorem dX6_addDove_67 : decode cX6_addDove 67 = .ok (.iconst 0, 1) := by decide +kernel
theorem dX6_addDove_68 : decode cX6_addDove 68 = .ok (.iastore, 1) := by decide +kernel
theorem dX6_addDove_69 : decode cX6_addDove 69 = .ok (.aload_n 0, 1) := by decide +kernel
theorem dX6_addDove_70 : decode cX6_addDove 70 = .ok (.dup, 1) := by decide +kernel
theorem dX6_addDove_71 : decode cX6_addDove 71 = .ok (.getfield 59, 3) := by decide +kernel
theorem dX6_addDove_74 : decode cX6_addDove 74 = .ok (.iconst 1, 1) := by decide +kernel
theorem dX6_addDove_75 : decode cX6_addDove 75 = .ok (.iadd, 1) := by decide +kernel
theorem dX6_addDove_76 : decode cX6_addDove 76 = .ok (.putfield 59, 3) := by decide +kernel
theorem dX6_addDove_79 : decode cX6_addDove 79 = .ok (.iconst 1, 1) := by decide +kernel
theorem dX6_addDove_80 : decode cX6_addDove 80 = .ok (.ireturn, 1) := by decide +kernel
theorem dX6_turnWindows_0 : decode cX6_turnWindows 0 = .ok (.aload_n 0, 1) := by decide +kernel
theorem dX6_turnWindows_1 : decode cX6_turnWindows 1 = .ok (.iload_n 1, 1) := by decide +kernel
theorem dX6_turnWindows_2 : decode cX6_turnWindows 2 = .ok (.invokevirtual 77, 3) := by decide +kernel
theorem dX6_turnWindows_5 : decode cX6_turnWindows 5 = .ok (.ifCond .ne 5, 3) := by decide +kernel
theorem dX6_turnWindows_8 : decode cX6_turnWindows 8 = .ok (.iconst 0, 1) := by decide +kernel
theorem dX6_turnWindows_9 : decode cX6_turnWindows 9 = .ok (.ireturn, 1) := by decide +kernel
theorem dX6_turnWindows_10 : decode cX6_turnWindows 10 = .ok (.aload_n 0, 1) := by decide +kernel
theorem dX6_turnWindows_11 : decode cX6_turnWindows 11 = .ok (.dup, 1) := by decide +kernel
theorem dX6_turnWindows_12 : decode cX6_turnWindows 12 = .ok (.getfield 62, 3) := by decide +kernel
theorem dX6_turnWindows_15 : decode cX6_turnWindows 15 = .ok (.iconst 1, 1) := by decide +kernel
theorem dX6_turnWindows_16 : decode cX6_turnWindows 16 = .ok (.iload_n 1, 1) := by decide +kernel
theorem dX6_turnWindows_17 : decode cX6_turnWindows 17 = .ok (.ishl, 1) := by decide +kernel
theorem dX6_turnWindows_18 : decode cX6_turnWindows 18 = .ok (.ixor, 1) := by decide +kernel
theorem dX6_turnWindows_19 : decode cX6_turnWindows 19 = .ok (.putfield 62, 3) := by decide +kernel
theorem dX6_turnWindows_22 : decode cX6_turnWindows 22 = .ok (.iconst 1, 1) := by decide +kernel
theorem dX6_turnWindows_23 : decode cX6_turnWindows 23 = .ok (.ireturn, 1) := by decide +kernel
theorem dX6_takeHawk_0 : decode cX6_takeHawk 0 = .ok (.iload_n 1, 1) := by decide +kernel
theorem dX6_takeHawk_1 : decode cX6_takeHawk 1 = .ok (.ifCond .lt 9, 3) := by decide +kernel
theorem dX6_takeHawk_4 : decode cX6_takeHawk 4 = .ok (.iload_n 1, 1) := by decide +kernel
theorem dX6_takeHawk_5 : decode cX6_takeHawk 5 = .ok (.bipush 20, 2) := by decide +kernel
theorem dX6_takeHawk_7 : decode cX6_takeHawk 7 = .ok (.if_icmp .le 5, 3) := by decide +kernel
theorem dX6_takeHawk_10 : decode cX6_takeHawk 10 = .ok (.iconst 0, 1) := by decide +kernel
theorem dX6_takeHawk_11 : decode cX6_takeHawk 11 = .ok (.ireturn, 1) := by decide +kernel
theorem dX6_takeHawk_12 : decode cX6_takeHawk 12 = .ok (.aload_n 0, 1) := by decide +kernel
theorem dX6_takeHawk_13 : decode cX6_takeHawk 13 = .ok (.iload_n 1, 1) := by decide +kernel
theorem dX6_takeHawk_14 : decode cX6_takeHawk 14 = .ok (.putfield 65, 3) := by decide +kernel
theorem dX6_takeHawk_17 : decode cX6_takeHawk 17 = .ok (.iconst 1, 1) := by decide +kernel
theorem dX6_takeHawk_18 : decode cX6_takeHawk 18 = .ok (.ireturn, 1) := by decide +kernel
theorem dX6_isOpen_0 : decode cX6_isOpen 0 = .ok (.aload_n 0, 1) := by decide +kernel
theorem dX6_isOpen_1 : decode cX6_isOpen 1 = .ok (.getfield 62, 3) := by decide +kernel
theorem dX6_isOpen_4 : decode cX6_isOpen 4 = .ok (.iload_n 1, 1) := by decide +kernel
theorem dX6_isOpen_5 : decode cX6_isOpen 5 = .ok (.invokestatic 81, 3) := by decide +kernel
theorem dX6_isOpen_8 : decode cX6_isOpen 8 = .ok (.ireturn, 1) := by decide +kernel
theorem dX6_isLost_0 : decode cX6_isLost 0 = .ok (.aload_n 0, 1) := by decide +kernel
theorem dX6_isLost_1 : decode cX6_isLost 1 = .ok (.iload_n 1, 1) := by decide +kernel
theorem dX6_isLost_2 : decode cX6_isLost 2 = .ok (.invokevirtual 85, 3) := by decide +kernel
theorem dX6_isLost_5 : decode cX6_isLost 5 = .ok (.ifCond .eq 14, 3) := by decide +kernel
theorem dX6_isLost_8 : decode cX6_isLost 8 = .ok (.aload_n 0, 1) := by decide +kernel
theorem dX6_isLost_9 : decode cX6_isLost 9 = .ok (.getfield 49, 3) := by decide +kernel
theorem dX6_isLost_12 : decode cX6_isLost 12 = .ok (.iload_n 1, 1) := by decide +kernel
theorem dX6_isLost_13 : decode cX6_isLost 13 = .ok (.iaload, 1) := by decide +kernel
theorem dX6_isLost_14 : decode cX6_isLost 14 = .ok (.bipush 9, 2) := by decide +kernel
theorem dX6_isLost_16 : decode cX6_isLost 16 = .ok (.if_icmp .ne 7, 3) := by decide +kernel
theorem dX6_isLost_19 : decode cX6_isLost 19 = .ok (.iconst 1, 1) := by decide +kernel
theorem dX6_isLost_20 : decode cX6_isLost 20 = .ok (.goto 4, 3) := by decide +kernel
theorem dX6_isLost_23 : decode cX6_isLost 23 = .ok (.iconst 0, 1) := by decide +kernel
theorem dX6_isLost_24 : decode cX6_isLost 24 = .ok (.ireturn, 1) := by decide +kernel
theorem dX6_isHome_0 : decode cX6_isHome 0 = .ok (.aload_n 0, 1) := by decide +kernel
theorem dX6_isHome_1 : decode cX6_isHome 1 = .ok (.iload_n 1, 1) := by decide +kernel
theorem dX6_isHome_2 : decode cX6_isHome 2 = .ok (.invokevirtual 85, 3) := by decide +kernel
theorem dX6_isHome_5 : decode cX6_isHome 5 = .ok (.ifCond .eq 22, 3) := by decide +kernel
theorem dX6_isHome_8 : decode cX6_isHome 8 = .ok (.aload_n 0, 1) := by decide +kernel
theorem dX6_isHome_9 : decode cX6_isHome 9 = .ok (.getfield 49, 3) := by decide +kernel
theorem dX6_isHome_12 : decode cX6_isHome 12 = .ok (.iload_n 1, 1) := by decide +kernel
theorem dX6_isHome_13 : decode cX6_isHome 13 = .ok (.iaload, 1) := by decide +kernel
theorem dX6_isHome_14 : decode cX6_isHome 14 = .ok (.aload_n 0, 1) := by decide +kernel
theorem dX6_isHome_15 : decode cX6_isHome 15 = .ok (.getfield 43, 3) := by decide +kernel
theorem dX6_isHome_18 : decode cX6_isHome 18 = .ok (.iload_n 1, 1) := by decide +kernel
theorem dX6_isHome_19 : decode cX6_isHome 19 = .ok (.iaload, 1) := by decide +kernel
theorem dX6_isHome_20 : decode cX6_isHome 20 = .ok (.if_icmp .ne 7, 3) := by decide +kernel
theorem dX6_isHome_23 : decode cX6_isHome 23 = .ok (.iconst 1, 1) := by decide +kernel
theorem dX6_isHome_24 : decode cX6_isHome 24 = .ok (.goto 4, 3) := by decide +kernel
theorem dX6_isHome_27 : decode cX6_isHome 27 = .ok (.iconst 0, 1) := by decide +kernel
theorem dX6_isHome_28 : decode cX6_isHome 28 = .ok (.ireturn, 1) := by decide +kernel
theorem dX6_dovesNotLost_0 : decode cX6_dovesNotLost 0 = .ok (.iconst 0, 1) := by decide +kernel
theorem dX6_dovesNotLost_1 : decode cX6_dovesNotLost 1 = .ok (.istore_n 1, 1) := by decide +kernel
theorem dX6_dovesNotLost_2 : decode cX6_dovesNotLost 2 = .ok (.iconst 0, 1) := by decide +kernel
theorem dX6_dovesNotLost_3 : decode cX6_dovesNotLost 3 = .ok (.istore_n 2, 1) := by decide +kernel
theorem dX6_dovesNotLost_4 : decode cX6_dovesNotLost 4 = .ok (.iload_n 2, 1) := by decide +kernel
theorem dX6_dovesNotLost_5 : decode cX6_dovesNotLost 5 = .ok (.aload_n 0, 1) := by decide +kernel
theorem dX6_dovesNotLost_6 : decode cX6_dovesNotLost 6 = .ok (.getfield 59, 3) := by decide +kernel
theorem dX6_dovesNotLost_9 : decode cX6_dovesNotLost 9 = .ok (.if_icmp .ge 23, 3) := by decide +kernel
theorem dX6_dovesNotLost_12 : decode cX6_dovesNotLost 12 = .ok (.aload_n 0, 1) := by decide +kernel
theorem dX6_dovesNotLost_13 : decode cX6_dovesNotLost 13 = .ok (.iload_n 2, 1) := by decide +kernel
theorem dX6_dovesNotLost_14 : decode cX6_dovesNotLost 14 = .ok (.invokevirtual 88, 3) := by decide +kernel
theorem dX6_dovesNotLost_17 : decode cX6_dovesNotLost 17 = .ok (.ifCond .ne 9, 3) := by decide +kernel
theorem dX6_dovesNotLost_20 : decode cX6_dovesNotLost 20 = .ok (.iload_n 1, 1) := by decide +kernel
theorem dX6_dovesNotLost_21 : decode cX6_dovesNotLost 21 = .ok (.iconst 1, 1) := by decide +kernel
theorem dX6_dovesNotLost_22 : decode cX6_dovesNotLost 22 = .ok (.iload_n 2, 1) := by decide +kernel
theorem dX6_dovesNotLost_23 : decode cX6_dovesNotLost 23 = .ok (.ishl, 1) := by decide +kernel
theorem dX6_dovesNotLost_24 : decode cX6_dovesNotLost 24 = .ok (.ior, 1) := by decide +kernel
theorem dX6_dovesNotLost_25 : decode cX6_dovesNotLost 25 = .ok (.istore_n 1, 1) := by decide +kernel
theorem dX6_dovesNotLost_26 : decode cX6_dovesNotLost 26 = .ok (.iinc 2 1, 3) := by decide +kernel
theorem dX6_dovesNotLost_29 : decode cX6_dovesNotLost 29 = .ok (.goto (-25), 3) := by decide +kernel
theorem dX6_dovesNotLost_32 : decode cX6_dovesNotLost 32 = .ok (.iload_n 1, 1) := by decide +kernel
theorem dX6_dovesNotLost_33 : decode cX6_dovesNotLost 33 = .ok (.ireturn, 1) := by decide +kernel
theorem dX6_dovesIn_0 : decode cX6_dovesIn 0 = .ok (.iconst 0, 1) := by decide +kernel
theorem dX6_dovesIn_1 : decode cX6_dovesIn 1 = .ok (.istore_n 2, 1) := by decide +kernel
theorem dX6_dovesIn_2 : decode cX6_dovesIn 2 = .ok (.iconst 0, 1) := by decide +kernel
theorem dX6_dovesIn_3 : decode cX6_dovesIn 3 = .ok (.istore_n 3, 1) := by decide +kernel
theorem dX6_dovesIn_4 : decode cX6_dovesIn 4 = .ok (.iload_n 3, 1) := by decide +kernel
theorem dX6_dovesIn_5 : decode cX6_dovesIn 5 = .ok (.aload_n 0, 1) := by decide +kernel
theorem dX6_dovesIn_6 : decode cX6_dovesIn 6 = .ok (.getfield 59, 3) := by decide +kernel
theorem dX6_dovesIn_9 : decode cX6_dovesIn 9 = .ok (.if_icmp .ge 25, 3) := by decide +kernel
theorem dX6_dovesIn_12 : decode cX6_dovesIn 12 = .ok (.aload_n 0, 1) := by decide +kernel
theorem dX6_dovesIn_13 : decode cX6_dovesIn 13 = .ok (.getfield 49, 3) := by decide +kernel
theorem dX6_dovesIn_16 : decode cX6_dovesIn 16 = .ok (.iload_n 3, 1) := by decide +kernel
theorem dX6_dovesIn_17 : decode cX6_dovesIn 17 = .ok (.iaload, 1) := by decide +kernel
theorem dX6_dovesIn_18 : decode cX6_dovesIn 18 = .ok (.iload_n 1, 1) := by decide +kernel
theorem dX6_dovesIn_19 : decode cX6_dovesIn 19 = .ok (.if_icmp .ne 9, 3) := by decide +kernel
theorem dX6_dovesIn_22 : decode cX6_dovesIn 22 = .ok (.iload_n 2, 1) := by decide +kernel
theorem dX6_dovesIn_23 : decode cX6_dovesIn 23 = .ok (.iconst 1, 1) := by decide +kernel
theorem dX6_dovesIn_24 : decode cX6_dovesIn 24 = .ok (.iload_n 3, 1) := by decide +kernel
theorem dX6_dovesIn_25 : decode cX6_dovesIn 25 = .ok (.ishl, 1) := by decide +kernel
theorem dX6_dovesIn_26 : decode cX6_dovesIn 26 = .ok (.ior, 1) := by decide +kernel
theorem dX6_dovesIn_27 : decode cX6_dovesIn 27 = .ok (.istore_n 2, 1) := by decide +kernel
theorem dX6_dovesIn_28 : decode cX6_dovesIn 28 = .ok (.iinc 3 1, 3) := by decide +kernel
theorem dX6_dovesIn_31 : decode cX6_dovesIn 31 = .ok (.goto (-27), 3) := by decide +kernel
theorem dX6_dovesIn_34 : decode cX6_dovesIn 34 = .ok (.iload_n 2, 1) := by decide +kernel
theorem dX6_dovesIn_35 : decode cX6_dovesIn 35 = .ok (.ireturn, 1) := by decide +kernel
theorem dX6_dovesHatchedIn_0 : decode cX6_dovesHatchedIn 0 = .ok (.iconst 0, 1) := by decide +kernel
theorem dX6_dovesHatchedIn_1 : decode cX6_dovesHatchedIn 1 = .ok (.istore_n 2, 1) := by decide +kernel
theorem dX6_dovesHatchedIn_2 : decode cX6_dovesHatchedIn 2 = .ok (.iconst 0, 1) := by decide +kernel
theorem dX6_dovesHatchedIn_3 : decode cX6_dovesHatchedIn 3 = .ok (.istore_n 3, 1) := by decide +kernel
theorem dX6_dovesHatchedIn_4 : decode cX6_dovesHatchedIn 4 = .ok (.iload_n 3, 1) := by decide +kernel
theorem dX6_dovesHatchedIn_5 : decode cX6_dovesHatchedIn 5 = .ok (.aload_n 0, 1) := by decide +kernel
theorem dX6_dovesHatchedIn_6 : decode cX6_dovesHatchedIn 6 = .ok (.getfield 59, 3) := by decide +kernel
theorem dX6_dovesHatchedIn_9 : decode cX6_dovesHatchedIn 9 = .ok (.if_icmp .ge 25, 3) := by decide +kernel
theorem dX6_dovesHatchedIn_12 : decode cX6_dovesHatchedIn 12 = .ok (.aload_n 0, 1) := by decide +kernel
theorem dX6_dovesHatchedIn_13 : decode cX6_dovesHatchedIn 13 = .ok (.getfield 43, 3) := by decide +kernel
theorem dX6_dovesHatchedIn_16 : decode cX6_dovesHatchedIn 16 = .ok (.iload_n 3, 1) := by decide +kernel
theorem dX6_dovesHatchedIn_17 : decode cX6_dovesHatchedIn 17 = .ok (.iaload, 1) := by decide +kernel
theorem dX6_dovesHatchedIn_18 : decode cX6_dovesHatchedIn 18 = .ok (.iload_n 1, 1) := by decide +kernel
theorem dX6_dovesHatchedIn_19 : decode cX6_dovesHatchedIn 19 = .ok (.if_icmp .ne 9, 3) := by decide +kernel
theorem dX6_dovesHatchedIn_22 : decode cX6_dovesHatchedIn 22 = .ok (.iload_n 2, 1) := by decide +kernel
theorem dX6_dovesHatchedIn_23 : decode cX6_dovesHatchedIn 23 = .ok (.iconst 1, 1) := by decide +kernel
theorem dX6_dovesHatchedIn_24 : decode cX6_dovesHatchedIn 24 = .ok (.iload_n 3, 1) := by decide +kernel
theorem dX6_dovesHatchedIn_25 : decode cX6_dovesHatchedIn 25 = .ok (.ishl, 1) := by decide +kernel
theorem dX6_dovesHatchedIn_26 : decode cX6_dovesHatchedIn 26 = .ok (.ior, 1) := by decide +kernel
theorem dX6_dovesHatchedIn_27 : decode cX6_dovesHatchedIn 27 = .ok (.istore_n 2, 1) := by decide +kernel
theorem dX6_dovesHatchedIn_28 : decode cX6_dovesHatchedIn 28 = .ok (.iinc 3 1, 3) := by decide +kernel
theorem dX6_dovesHatchedIn_31 : decode cX6_dovesHatchedIn 31 = .ok (.goto (-27), 3) := by decide +kernel
theorem dX6_dovesHatchedIn_34 : decode cX6_dovesHatchedIn 34 = .ok (.iload_n 2, 1) := by decide +kernel
theorem dX6_dovesHatchedIn_35 : decode cX6_dovesHatchedIn 35 = .ok (.ireturn, 1) := by decide +kernel
theorem dX6_apart_0 : decode cX6_apart 0 = .ok (.iload_n 1, 1) := by decide +kernel
theorem dX6_apart_1 : decode cX6_apart 1 = .ok (.ifCond .lt 23, 3) := by decide +kernel
theorem dX6_apart_4 : decode cX6_apart 4 = .ok (.iload_n 1, 1) := by decide +kernel
theorem dX6_apart_5 : decode cX6_apart 5 = .ok (.aload_n 0, 1) := by decide +kernel
theorem dX6_apart_6 : decode cX6_apart 6 = .ok (.getfield 55, 3) := by decide +kernel
theorem dX6_apart_9 : decode cX6_apart 9 = .ok (.if_icmp .ge 15, 3) := by decide +kernel
theorem dX6_apart_12 : decode cX6_apart 12 = .ok (.iload_n 2, 1) := by decide +kernel
theorem dX6_apart_13 : decode cX6_apart 13 = .ok (.ifCond .lt 11, 3) := by decide +kernel
theorem dX6_apart_16 : decode cX6_apart 16 = .ok (.iload_n 2, 1) := by decide +kernel
theorem dX6_apart_17 : decode cX6_apart 17 = .ok (.aload_n 0, 1) := by decide +kernel
theorem dX6_apart_18 : decode cX6_apart 18 = .ok (.getfield 55, 3) := by decide +kernel
theorem dX6_apart_21 : decode cX6_apart 21 = .ok (.if_icmp .lt 5, 3) := by decide +kernel
theorem dX6_apart_24 : decode cX6_apart 24 = .ok (.iconst 0, 1) := by decide +kernel
theorem dX6_apart_25 : decode cX6_apart 25 = .ok (.ireturn, 1) := by decide +kernel
theorem dX6_apart_26 : decode cX6_apart 26 = .ok (.aload_n 0, 1) := by decide +kernel
theorem dX6_apart_27 : decode cX6_apart 27 = .ok (.getfield 33, 3) := by decide +kernel
theorem dX6_apart_30 : decode cX6_apart 30 = .ok (.iload_n 1, 1) := by decide +kernel
theorem dX6_apart_31 : decode cX6_apart 31 = .ok (.iaload, 1) := by decide +kernel
theorem dX6_apart_32 : decode cX6_apart 32 = .ok (.aload_n 0, 1) := by decide +kernel
theorem dX6_apart_33 : decode cX6_apart 33 = .ok (.getfield 33, 3) := by decide +kernel
theorem dX6_apart_36 : decode cX6_apart 36 = .ok (.iload_n 2, 1) := by decide +kernel
theorem dX6_apart_37 : decode cX6_apart 37 = .ok (.iaload, 1) := by decide +kernel
theorem dX6_apart_38 : decode cX6_apart 38 = .ok (.isub, 1) := by decide +kernel
theorem dX6_apart_39 : decode cX6_apart 39 = .ok (.istore_n 3, 1) := by decide +kernel
theorem dX6_apart_40 : decode cX6_apart 40 = .ok (.aload_n 0, 1) := by decide +kernel
theorem dX6_apart_41 : decode cX6_apart 41 = .ok (.getfield 37, 3) := by decide +kernel
theorem dX6_apart_44 : decode cX6_apart 44 = .ok (.iload_n 1, 1) := by decide +kernel
theorem dX6_apart_45 : decode cX6_apart 45 = .ok (.iaload, 1) := by decide +kernel
theorem dX6_apart_46 : decode cX6_apart 46 = .ok (.aload_n 0, 1) := by decide +kernel
theorem dX6_apart_47 : decode cX6_apart 47 = .ok (.getfield 37, 3) := by decide +kernel
theorem dX6_apart_50 : decode cX6_apart 50 = .ok (.iload_n 2, 1) := by decide +kernel
theorem dX6_apart_51 : decode cX6_apart 51 = .ok (.iaload, 1) := by decide +kernel
theorem dX6_apart_52 : decode cX6_apart 52 = .ok (.isub, 1) := by decide +kernel
theorem dX6_apart_53 : decode cX6_apart 53 = .ok (.istore 4, 2) := by decide +kernel
theorem dX6_apart_55 : decode cX6_apart 55 = .ok (.iload_n 3, 1) := by decide +kernel
theorem dX6_apart_56 : decode cX6_apart 56 = .ok (.ifCond .ge 8, 3) := by decide +kernel
theorem dX6_apart_59 : decode cX6_apart 59 = .ok (.iload_n 3, 1) := by decide +kernel
theorem dX6_apart_60 : decode cX6_apart 60 = .ok (.ineg, 1) := by decide +kernel
theorem dX6_apart_61 : decode cX6_apart 61 = .ok (.goto 4, 3) := by decide +kernel
theorem dX6_apart_64 : decode cX6_apart 64 = .ok (.iload_n 3, 1) := by decide +kernel
theorem dX6_apart_65 : decode cX6_apart 65 = .ok (.iload 4, 2) := by decide +kernel
theorem dX6_apart_67 : decode cX6_apart 67 = .ok (.ifCond .ge 9, 3) := by decide +kernel
theorem dX6_apart_70 : decode cX6_apart 70 = .ok (.iload 4, 2) := by decide +kernel
theorem dX6_apart_72 : decode cX6_apart 72 = .ok (.ineg, 1) := by decide +kernel
theorem dX6_apart_73 : decode cX6_apart 73 = .ok (.goto 5, 3) := by decide +kernel
theorem dX6_apart_76 : decode cX6_apart 76 = .ok (.iload 4, 2) := by decide +kernel
theorem dX6_apart_78 : decode cX6_apart 78 = .ok (.iadd, 1) := by decide +kernel
theorem dX6_apart_79 : decode cX6_apart 79 = .ok (.ireturn, 1) := by decide +kernel
theorem dX6_nearestOther_0 : decode cX6_nearestOther 0 = .ok (.bipush 9, 2) := by decide +kernel
theorem dX6_nearestOther_2 : decode cX6_nearestOther 2 = .ok (.istore_n 2, 1) := by decide +kernel
theorem dX6_nearestOther_3 : decode cX6_nearestOther 3 = .ok (.bipush 19, 2) := by decide +kernel
theorem dX6_nearestOther_5 : decode cX6_nearestOther 5 = .ok (.istore_n 3, 1) := by decide +kernel
theorem dX6_nearestOther_6 : decode cX6_nearestOther 6 = .ok (.iconst 0, 1) := by decide +kernel
theorem dX6_nearestOther_7 : decode cX6_nearestOther 7 = .ok (.istore 4, 2) := by decide +kernel
theorem dX6_nearestOther_9 : decode cX6_nearestOther 9 = .ok (.iload 4, 2) := by decide +kernel
theorem dX6_nearestOther_11 : decode cX6_nearestOther 11 = .ok (.aload_n 0, 1) := by decide +kernel
theorem dX6_nearestOther_12 : decode cX6_nearestOther 12 = .ok (.getfield 55, 3) := by decide +kernel
theorem dX6_nearestOther_15 : decode cX6_nearestOther 15 = .ok (.if_icmp .ge 36, 3) := by decide +kernel
theorem dX6_nearestOther_18 : decode cX6_nearestOther 18 = .ok (.aload_n 0, 1) := by decide +kernel
theorem dX6_nearestOther_19 : decode cX6_nearestOther 19 = .ok (.iload_n 1, 1) := by decide +kernel
theorem dX6_nearestOther_20 : decode cX6_nearestOther 20 = .ok (.iload 4, 2) := by decide +kernel
theorem dX6_nearestOther_22 : decode cX6_nearestOther 22 = .ok (.invokevirtual 91, 3) := by decide +kernel
theorem dX6_nearestOther_25 : decode cX6_nearestOther 25 = .ok (.istore 5, 2) := by decide +kernel
theorem dX6_nearestOther_27 : decode cX6_nearestOther 27 = .ok (.iload 4, 2) := by decide +kernel
theorem dX6_nearestOther_29 : decode cX6_nearestOther 29 = .ok (.iload_n 1, 1) := by decide +kernel
theorem dX6_nearestOther_30 : decode cX6_nearestOther 30 = .ok (.if_icmp .eq 15, 3) := by decide +kernel
theorem dX6_nearestOther_33 : decode cX6_nearestOther 33 = .ok (.iload 5, 2) := by decide +kernel
theorem dX6_nearestOther_35 : decode cX6_nearestOther 35 = .ok (.iload_n 3, 1) := by decide +kernel
theorem dX6_nearestOther_36 : decode cX6_nearestOther 36 = .ok (.if_icmp .ge 9, 3) := by decide +kernel
theorem dX6_nearestOther_39 : decode cX6_nearestOther 39 = .ok (.iload 5, 2) := by decide +kernel
theorem dX6_nearestOther_41 : decode cX6_nearestOther 41 = .ok (.istore_n 3, 1) := by decide +kernel
theorem dX6_nearestOther_42 : decode cX6_nearestOther 42 = .ok (.iload 4, 2) := by decide +kernel
theorem dX6_nearestOther_44 : decode cX6_nearestOther 44 = .ok (.istore_n 2, 1) := by decide +kernel
theorem dX6_nearestOther_45 : decode cX6_nearestOther 45 = .ok (.iinc 4 1, 3) := by decide +kernel
theorem dX6_nearestOther_48 : decode cX6_nearestOther 48 = .ok (.goto (-39), 3) := by decide +kernel
theorem dX6_nearestOther_51 : decode cX6_nearestOther 51 = .ok (.iload_n 2, 1) := by decide +kernel
theorem dX6_nearestOther_52 : decode cX6_nearestOther 52 = .ok (.ireturn, 1) := by decide +kernel
theorem dX6_kindOf_0 : decode cX6_kindOf 0 = .ok (.aload_n 0, 1) := by decide +kernel
theorem dX6_kindOf_1 : decode cX6_kindOf 1 = .ok (.iload_n 1, 1) := by decide +kernel
theorem dX6_kindOf_2 : decode cX6_kindOf 2 = .ok (.invokevirtual 85, 3) := by decide +kernel
theorem dX6_kindOf_5 : decode cX6_kindOf 5 = .ok (.ifCond .eq 12, 3) := by decide +kernel
theorem dX6_kindOf_8 : decode cX6_kindOf 8 = .ok (.aload_n 0, 1) := by decide +kernel
theorem dX6_kindOf_9 : decode cX6_kindOf 9 = .ok (.getfield 40, 3) := by decide +kernel
theorem dX6_kindOf_12 : decode cX6_kindOf 12 = .ok (.iload_n 1, 1) := by decide +kernel
theorem dX6_kindOf_13 : decode cX6_kindOf 13 = .ok (.iaload, 1) := by decide +kernel
theorem dX6_kindOf_14 : decode cX6_kindOf 14 = .ok (.goto 4, 3) := by decide +kernel
theorem dX6_kindOf_17 : decode cX6_kindOf 17 = .ok (.iconst 0, 1) := by decide +kernel
theorem dX6_kindOf_18 : decode cX6_kindOf 18 = .ok (.istore_n 2, 1) := by decide +kernel
theorem dX6_kindOf_19 : decode cX6_kindOf 19 = .ok (.iload_n 2, 1) := by decide +kernel
theorem dX6_kindOf_20 : decode cX6_kindOf 20 = .ok (.ifCond .lt 21, 3) := by decide +kernel
theorem dX6_kindOf_23 : decode cX6_kindOf 23 = .ok (.iload_n 2, 1) := by decide +kernel
theorem dX6_kindOf_24 : decode cX6_kindOf 24 = .ok (.aload_n 0, 1) := by decide +kernel
theorem dX6_kindOf_25 : decode cX6_kindOf 25 = .ok (.getfield 27, 3) := by decide +kernel
theorem dX6_kindOf_28 : decode cX6_kindOf 28 = .ok (.arraylength, 1) := by decide +kernel
theorem dX6_kindOf_29 : decode cX6_kindOf 29 = .ok (.if_icmp .ge 12, 3) := by decide +kernel
theorem dX6_kindOf_32 : decode cX6_kindOf 32 = .ok (.aload_n 0, 1) := by decide +kernel
theorem dX6_kindOf_33 : decode cX6_kindOf 33 = .ok (.getfield 27, 3) := by decide +kernel
theorem dX6_kindOf_36 : decode cX6_kindOf 36 = .ok (.iload_n 2, 1) := by decide +kernel
theorem dX6_kindOf_37 : decode cX6_kindOf 37 = .ok (.aaload, 1) := by decide +kernel
theorem dX6_kindOf_38 : decode cX6_kindOf 38 = .ok (.goto 9, 3) := by decide +kernel
theorem dX6_kindOf_41 : decode cX6_kindOf 41 = .ok (.aload_n 0, 1) := by decide +kernel
theorem dX6_kindOf_42 : decode cX6_kindOf 42 = .ok (.getfield 27, 3) := by decide +kernel
theorem dX6_kindOf_45 : decode cX6_kindOf 45 = .ok (.iconst 0, 1) := by decide +kernel
theorem dX6_kindOf_46 : decode cX6_kindOf 46 = .ok (.aaload, 1) := by decide +kernel
theorem dX6_kindOf_47 : decode cX6_kindOf 47 = .ok (.areturn, 1) := by decide +kernel
theorem dX6_worthOf_0 : decode cX6_worthOf 0 = .ok (.aload_n 0, 1) := by decide +kernel
theorem dX6_worthOf_1 : decode cX6_worthOf 1 = .ok (.iload_n 1, 1) := by decide +kernel
theorem dX6_worthOf_2 : decode cX6_worthOf 2 = .ok (.invokevirtual 85, 3) := by decide +kernel
theorem dX6_worthOf_5 : decode cX6_worthOf 5 = .ok (.ifCond .eq 20, 3) := by decide +kernel
theorem dX6_worthOf_8 : decode cX6_worthOf 8 = .ok (.aload_n 0, 1) := by decide +kernel
theorem dX6_worthOf_9 : decode cX6_worthOf 9 = .ok (.iload_n 1, 1) := by decide +kernel
theorem dX6_worthOf_10 : decode cX6_worthOf 10 = .ok (.invokevirtual 95, 3) := by decide +kernel
theorem dX6_worthOf_13 : decode cX6_worthOf 13 = .ok (.aload_n 0, 1) := by decide +kernel
theorem dX6_worthOf_14 : decode cX6_worthOf 14 = .ok (.getfield 46, 3) := by decide +kernel
theorem dX6_worthOf_17 : decode cX6_worthOf 17 = .ok (.iload_n 1, 1) := by decide +kernel
theorem dX6_worthOf_18 : decode cX6_worthOf 18 = .ok (.iaload, 1) := by decide +kernel
theorem dX6_worthOf_19 : decode cX6_worthOf 19 = .ok (.invokevirtual 99, 3) := by decide +kernel
theorem dX6_worthOf_22 : decode cX6_worthOf 22 = .ok (.goto 4, 3) := by decide +kernel
theorem dX6_worthOf_25 : decode cX6_worthOf 25 = .ok (.iconst 0, 1) := by decide +kernel
theorem dX6_worthOf_26 : decode cX6_worthOf 26 = .ok (.ireturn, 1) := by decide +kernel
theorem dX6_aimOf_0 : decode cX6_aimOf 0 = .ok (.aload_n 0, 1) := by decide +kernel
theorem dX6_aimOf_1 : decode cX6_aimOf 1 = .ok (.iload_n 1, 1) := by decide +kernel
theorem dX6_aimOf_2 : decode cX6_aimOf 2 = .ok (.invokevirtual 88, 3) := by decide +kernel
theorem dX6_aimOf_5 : decode cX6_aimOf 5 = .ok (.ifCond .eq 6, 3) := by decide +kernel
theorem dX6_aimOf_8 : decode cX6_aimOf 8 = .ok (.bipush 9, 2) := by decide +kernel
theorem dX6_aimOf_10 : decode cX6_aimOf 10 = .ok (.ireturn, 1) := by decide +kernel
theorem dX6_aimOf_11 : decode cX6_aimOf 11 = .ok (.aload_n 0, 1) := by decide +kernel
theorem dX6_aimOf_12 : decode cX6_aimOf 12 = .ok (.iload_n 1, 1) := by decide +kernel
theorem dX6_aimOf_13 : decode cX6_aimOf 13 = .ok (.invokevirtual 95, 3) := by decide +kernel
theorem dX6_aimOf_16 : decode cX6_aimOf 16 = .ok (.aload_n 0, 1) := by decide +kernel
theorem dX6_aimOf_17 : decode cX6_aimOf 17 = .ok (.aload_n 0, 1) := by decide +kernel
theorem dX6_aimOf_18 : decode cX6_aimOf 18 = .ok (.getfield 49, 3) := by decide +kernel
theorem dX6_aimOf_21 : decode cX6_aimOf 21 = .ok (.iload_n 1, 1) := by decide +kernel
theorem dX6_aimOf_22 : decode cX6_aimOf 22 = .ok (.iaload, 1) := by decide +kernel
theorem dX6_aimOf_23 : decode cX6_aimOf 23 = .ok (.aload_n 0, 1) := by decide +kernel
theorem dX6_aimOf_24 : decode cX6_aimOf 24 = .ok (.getfield 43, 3) := by decide +kernel
theorem dX6_aimOf_27 : decode cX6_aimOf 27 = .ok (.iload_n 1, 1) := by decide +kernel
theorem dX6_aimOf_28 : decode cX6_aimOf 28 = .ok (.iaload, 1) := by decide +kernel
theorem dX6_aimOf_29 : decode cX6_aimOf 29 = .ok (.aload_n 0, 1) := by decide +kernel
theorem dX6_aimOf_30 : decode cX6_aimOf 30 = .ok (.getfield 46, 3) := by decide +kernel
theorem dX6_aimOf_33 : decode cX6_aimOf 33 = .ok (.iload_n 1, 1) := by decide +kernel
theorem dX6_aimOf_34 : decode cX6_aimOf 34 = .ok (.iaload, 1) := by decide +kernel
theorem dX6_aimOf_35 : decode cX6_aimOf 35 = .ok (.invokevirtual 103, 3) := by decide +kernel
theorem dX6_aimOf_38 : decode cX6_aimOf 38 = .ok (.ireturn, 1) := by decide +kernel
theorem dX6_placeIfLetGo_0 : decode cX6_placeIfLetGo 0 = .ok (.aload_n 0, 1) := by decide +kernel
theorem dX6_placeIfLetGo_1 : decode cX6_placeIfLetGo 1 = .ok (.iload_n 1, 1) := by decide +kernel
theorem dX6_placeIfLetGo_2 : decode cX6_placeIfLetGo 2 = .ok (.invokevirtual 107, 3) := by decide +kernel
theorem dX6_placeIfLetGo_5 : decode cX6_placeIfLetGo 5 = .ok (.istore_n 2, 1) := by decide +kernel
theorem dX6_placeIfLetGo_6 : decode cX6_placeIfLetGo 6 = .ok (.iload_n 2, 1) := by decide +kernel
theorem dX6_placeIfLetGo_7 : decode cX6_placeIfLetGo 7 = .ok (.bipush 9, 2) := by decide +kernel
theorem dX6_placeIfLetGo_9 : decode cX6_placeIfLetGo 9 = .ok (.if_icmp .eq 5, 3) := by decide +kernel
theorem dX6_placeIfLetGo_12 : decode cX6_placeIfLetGo 12 = .ok (.iload_n 2, 1) := by decide +kernel
theorem dX6_placeIfLetGo_13 : decode cX6_placeIfLetGo 13 = .ok (.ireturn, 1) := by decide +kernel
theorem dX6_placeIfLetGo_14 : decode cX6_placeIfLetGo 14 = .ok (.aload_n 0, 1) := by decide +kernel
theorem dX6_placeIfLetGo_15 : decode cX6_placeIfLetGo 15 = .ok (.iload_n 1, 1) := by decide +kernel
theorem dX6_placeIfLetGo_16 : decode cX6_placeIfLetGo 16 = .ok (.invokevirtual 85, 3) := by decide +kernel
theorem dX6_placeIfLetGo_19 : decode cX6_placeIfLetGo 19 = .ok (.ifCond .eq 12, 3) := by decide +kernel
theorem dX6_placeIfLetGo_22 : decode cX6_placeIfLetGo 22 = .ok (.aload_n 0, 1) := by decide +kernel
theorem dX6_placeIfLetGo_23 : decode cX6_placeIfLetGo 23 = .ok (.getfield 49, 3) := by decide +kernel
theorem dX6_placeIfLetGo_26 : decode cX6_placeIfLetGo 26 = .ok (.iload_n 1, 1) := by decide +kernel
theorem dX6_placeIfLetGo_27 : decode cX6_placeIfLetGo 27 = .ok (.iaload, 1) := by decide +kernel
theorem dX6_placeIfLetGo_28 : decode cX6_placeIfLetGo 28 = .ok (.goto 5, 3) := by decide +kernel
theorem dX6_placeIfLetGo_31 : decode cX6_placeIfLetGo 31 = .ok (.bipush 9, 2) := by decide +kernel
theorem dX6_placeIfLetGo_33 : decode cX6_placeIfLetGo 33 = .ok (.ireturn, 1) := by decide +kernel
theorem dX6_purseOf_0 : decode cX6_purseOf 0 = .ok (.aload_n 0, 1) := by decide +kernel
theorem dX6_purseOf_1 : decode cX6_purseOf 1 = .ok (.aload_n 0, 1) := by decide +kernel
theorem dX6_purseOf_2 : decode cX6_purseOf 2 = .ok (.iload_n 1, 1) := by decide +kernel
theorem dX6_purseOf_3 : decode cX6_purseOf 3 = .ok (.invokevirtual 110, 3) := by decide +kernel
theorem dX6_purseOf_6 : decode cX6_purseOf 6 = .ok (.invokevirtual 113, 3) := by decide +kernel
theorem dX6_purseOf_9 : decode cX6_purseOf 9 = .ok (.ireturn, 1) := by decide +kernel
theorem dX6_ownOf_0 : decode cX6_ownOf 0 = .ok (.aload_n 0, 1) := by decide +kernel
theorem dX6_ownOf_1 : decode cX6_ownOf 1 = .ok (.aload_n 0, 1) := by decide +kernel
theorem dX6_ownOf_2 : decode cX6_ownOf 2 = .ok (.iload_n 1, 1) := by decide +kernel
theorem dX6_ownOf_3 : decode cX6_ownOf 3 = .ok (.invokevirtual 116, 3) := by decide +kernel
theorem dX6_ownOf_6 : decode cX6_ownOf 6 = .ok (.aload_n 0, 1) := by decide +kernel
theorem dX6_ownOf_7 : decode cX6_ownOf 7 = .ok (.invokevirtual 119, 3) := by decide +kernel
theorem dX6_ownOf_10 : decode cX6_ownOf 10 = .ok (.iand, 1) := by decide +kernel
theorem dX6_ownOf_11 : decode cX6_ownOf 11 = .ok (.invokevirtual 113, 3) := by decide +kernel
theorem dX6_ownOf_14 : decode cX6_ownOf 14 = .ok (.ireturn, 1) := by decide +kernel
theorem dX6_worthOfAll_0 : decode cX6_worthOfAll 0 = .ok (.iconst 0, 1) := by decide +kernel
theorem dX6_worthOfAll_1 : decode cX6_worthOfAll 1 = .ok (.istore_n 2, 1) := by decide +kernel
theorem dX6_worthOfAll_2 : decode cX6_worthOfAll 2 = .ok (.iconst 0, 1) := by decide +kernel
theorem dX6_worthOfAll_3 : decode cX6_worthOfAll 3 = .ok (.istore_n 3, 1) := by decide +kernel
theorem dX6_worthOfAll_4 : decode cX6_worthOfAll 4 = .ok (.iload_n 3, 1) := by decide +kernel
theorem dX6_worthOfAll_5 : decode cX6_worthOfAll 5 = .ok (.aload_n 0, 1) := by decide +kernel
theorem dX6_worthOfAll_6 : decode cX6_worthOfAll 6 = .ok (.getfield 59, 3) := by decide +kernel
theorem dX6_worthOfAll_9 : decode cX6_worthOfAll 9 = .ok (.if_icmp .ge 25, 3) := by decide +kernel
theorem dX6_worthOfAll_12 : decode cX6_worthOfAll 12 = .ok (.iload_n 1, 1) := by decide +kernel
theorem dX6_worthOfAll_13 : decode cX6_worthOfAll 13 = .ok (.iload_n 3, 1) := by decide +kernel
theorem dX6_worthOfAll_14 : decode cX6_worthOfAll 14 = .ok (.invokestatic 81, 3) := by decide +kernel
theorem dX6_worthOfAll_17 : decode cX6_worthOfAll 17 = .ok (.ifCond .eq 11, 3) := by decide +kernel
theorem dX6_worthOfAll_20 : decode cX6_worthOfAll 20 = .ok (.iload_n 2, 1) := by decide +kernel
theorem dX6_worthOfAll_21 : decode cX6_worthOfAll 21 = .ok (.aload_n 0, 1) := by decide +kernel
theorem dX6_worthOfAll_22 : decode cX6_worthOfAll 22 = .ok (.iload_n 3, 1) := by decide +kernel
theorem dX6_worthOfAll_23 : decode cX6_worthOfAll 23 = .ok (.invokevirtual 123, 3) := by decide +kernel
theorem dX6_worthOfAll_26 : decode cX6_worthOfAll 26 = .ok (.iadd, 1) := by decide +kernel
theorem dX6_worthOfAll_27 : decode cX6_worthOfAll 27 = .ok (.istore_n 2, 1) := by decide +kernel
theorem dX6_worthOfAll_28 : decode cX6_worthOfAll 28 = .ok (.iinc 3 1, 3) := by decide +kernel
theorem dX6_worthOfAll_31 : decode cX6_worthOfAll 31 = .ok (.goto (-27), 3) := by decide +kernel
theorem dX6_worthOfAll_34 : decode cX6_worthOfAll 34 = .ok (.iload_n 2, 1) := by decide +kernel
theorem dX6_worthOfAll_35 : decode cX6_worthOfAll 35 = .ok (.ireturn, 1) := by decide +kernel
theorem dX6_letAllGo_0 : decode cX6_letAllGo 0 = .ok (.iconst 0, 1) := by decide +kernel
theorem dX6_letAllGo_1 : decode cX6_letAllGo 1 = .ok (.istore_n 1, 1) := by decide +kernel
theorem dX6_letAllGo_2 : decode cX6_letAllGo 2 = .ok (.iload_n 1, 1) := by decide +kernel
theorem dX6_letAllGo_3 : decode cX6_letAllGo 3 = .ok (.aload_n 0, 1) := by decide +kernel
theorem dX6_letAllGo_4 : decode cX6_letAllGo 4 = .ok (.getfield 59, 3) := by decide +kernel
theorem dX6_letAllGo_7 : decode cX6_letAllGo 7 = .ok (.if_icmp .ge 20, 3) := by decide +kernel
theorem dX6_letAllGo_10 : decode cX6_letAllGo 10 = .ok (.aload_n 0, 1) := by decide +kernel
theorem dX6_letAllGo_11 : decode cX6_letAllGo 11 = .ok (.getfield 49, 3) := by decide +kernel
theorem dX6_letAllGo_14 : decode cX6_letAllGo 14 = .ok (.iload_n 1, 1) := by decide +kernel
theorem dX6_letAllGo_15 : decode cX6_letAllGo 15 = .ok (.aload_n 0, 1) := by decide +kernel
theorem dX6_letAllGo_16 : decode cX6_letAllGo 16 = .ok (.iload_n 1, 1) := by decide +kernel
theorem dX6_letAllGo_17 : decode cX6_letAllGo 17 = .ok (.invokevirtual 126, 3) := by decide +kernel
theorem dX6_letAllGo_20 : decode cX6_letAllGo 20 = .ok (.iastore, 1) := by decide +kernel
theorem dX6_letAllGo_21 : decode cX6_letAllGo 21 = .ok (.iinc 1 1, 3) := by decide +kernel
theorem dX6_letAllGo_24 : decode cX6_letAllGo 24 = .ok (.goto (-22), 3) := by decide +kernel
theorem dX6_letAllGo_27 : decode cX6_letAllGo 27 = .ok (.return_, 1) := by decide +kernel
theorem dX6_passDusks_0 : decode cX6_passDusks 0 = .ok (.iconst 0, 1) := by decide +kernel
theorem dX6_passDusks_1 : decode cX6_passDusks 1 = .ok (.istore_n 2, 1) := by decide +kernel
theorem dX6_passDusks_2 : decode cX6_passDusks 2 = .ok (.iconst 0, 1) := by decide +kernel
theorem dX6_passDusks_3 : decode cX6_passDusks 3 = .ok (.istore_n 3, 1) := by decide +kernel
theorem dX6_passDusks_4 : decode cX6_passDusks 4 = .ok (.iload_n 3, 1) := by decide +kernel
theorem dX6_passDusks_5 : decode cX6_passDusks 5 = .ok (.iload_n 1, 1) := by decide +kernel
theorem dX6_passDusks_6 : decode cX6_passDusks 6 = .ok (.if_icmp .ge 16, 3) := by decide +kernel
theorem dX6_passDusks_9 : decode cX6_passDusks 9 = .ok (.iload_n 2, 1) := by decide +kernel
theorem dX6_passDusks_10 : decode cX6_passDusks 10 = .ok (.aload_n 0, 1) := by decide +kernel
theorem dX6_passDusks_11 : decode cX6_passDusks 11 = .ok (.invokevirtual 129, 3) := by decide +kernel
theorem dX6_passDusks_14 : decode cX6_passDusks 14 = .ok (.iadd, 1) := by decide +kernel
theorem dX6_passDusks_15 : decode cX6_passDusks 15 = .ok (.istore_n 2, 1) := by decide +kernel
theorem dX6_passDusks_16 : decode cX6_passDusks 16 = .ok (.iinc 3 1, 3) := by decide +kernel
theorem dX6_passDusks_19 : decode cX6_passDusks 19 = .ok (.goto (-15), 3) := by decide +kernel
theorem dX6_passDusks_22 : decode cX6_passDusks 22 = .ok (.iload_n 2, 1) := by decide +kernel
theorem dX6_passDusks_23 : decode cX6_passDusks 23 = .ok (.ireturn, 1) := by decide +kernel
theorem dX6_passDusk_0 : decode cX6_passDusk 0 = .ok (.aload_n 0, 1) := by decide +kernel
theorem dX6_passDusk_1 : decode cX6_passDusk 1 = .ok (.getfield 59, 3) := by decide +kernel
theorem dX6_passDusk_4 : decode cX6_passDusk 4 = .ok (.istore_n 1, 1) := by decide +kernel
theorem dX6_passDusk_5 : decode cX6_passDusk 5 = .ok (.aload_n 0, 1) := by decide +kernel
theorem dX6_passDusk_6 : decode cX6_passDusk 6 = .ok (.invokevirtual 132, 3) := by decide +kernel
theorem dX6_passDusk_9 : decode cX6_passDusk 9 = .ok (.istore_n 2, 1) := by decide +kernel
theorem dX6_passDusk_10 : decode cX6_passDusk 10 = .ok (.aload_n 0, 1) := by decide +kernel
theorem dX6_passDusk_11 : decode cX6_passDusk 11 = .ok (.invokevirtual 135, 3) := by decide +kernel
theorem dX6_passDusk_14 : decode cX6_passDusk 14 = .ok (.aload_n 0, 1) := by decide +kernel
theorem dX6_passDusk_15 : decode cX6_passDusk 15 = .ok (.getfield 68, 3) := by decide +kernel
theorem dX6_passDusk_18 : decode cX6_passDusk 18 = .ok (.iconst 3, 1) := by decide +kernel
theorem dX6_passDusk_19 : decode cX6_passDusk 19 = .ok (.irem, 1) := by decide +kernel
theorem dX6_passDusk_20 : decode cX6_passDusk 20 = .ok (.ifCond .ne 7, 3) := by decide +kernel
theorem dX6_passDusk_23 : decode cX6_passDusk 23 = .ok (.aload_n 0, 1) := by decide +kernel
theorem dX6_passDusk_24 : decode cX6_passDusk 24 = .ok (.invokevirtual 138, 3) := by decide +kernel
theorem dX6_passDusk_27 : decode cX6_passDusk 27 = .ok (.aload_n 0, 1) := by decide +kernel
theorem dX6_passDusk_28 : decode cX6_passDusk 28 = .ok (.getfield 68, 3) := by decide +kernel
theorem dX6_passDusk_31 : decode cX6_passDusk 31 = .ok (.iconst 5, 1) := by decide +kernel
theorem dX6_passDusk_32 : decode cX6_passDusk 32 = .ok (.irem, 1) := by decide +kernel
theorem dX6_passDusk_33 : decode cX6_passDusk 33 = .ok (.ifCond .ne 8, 3) := by decide +kernel
theorem dX6_passDusk_36 : decode cX6_passDusk 36 = .ok (.aload_n 0, 1) := by decide +kernel
theorem dX6_passDusk_37 : decode cX6_passDusk 37 = .ok (.iload_n 1, 1) := by decide +kernel
theorem dX6_passDusk_38 : decode cX6_passDusk 38 = .ok (.invokevirtual 141, 3) := by decide +kernel
theorem dX6_passDusk_41 : decode cX6_passDusk 41 = .ok (.aload_n 0, 1) := by decide +kernel
theorem dX6_passDusk_42 : decode cX6_passDusk 42 = .ok (.dup, 1) := by decide +kernel
theorem dX6_passDusk_43 : decode cX6_passDusk 43 = .ok (.getfield 68, 3) := by decide +kernel
theorem dX6_passDusk_46 : decode cX6_passDusk 46 = .ok (.iconst 1, 1) := by decide +kernel
theorem dX6_passDusk_47 : decode cX6_passDusk 47 = .ok (.iadd, 1) := by decide +kernel
theorem dX6_passDusk_48 : decode cX6_passDusk 48 = .ok (.putfield 68, 3) := by decide +kernel
theorem dX6_passDusk_51 : decode cX6_passDusk 51 = .ok (.iload_n 2, 1) := by decide +kernel
theorem dX6_passDusk_52 : decode cX6_passDusk 52 = .ok (.ireturn, 1) := by decide +kernel
theorem dX6_flyAtDusk_0 : decode cX6_flyAtDusk 0 = .ok (.iconst 0, 1) := by decide +kernel
theorem dX6_flyAtDusk_1 : decode cX6_flyAtDusk 1 = .ok (.istore_n 1, 1) := by decide +kernel
theorem dX6_flyAtDusk_2 : decode cX6_flyAtDusk 2 = .ok (.iconst 0, 1) := by decide +kernel
theorem dX6_flyAtDusk_3 : decode cX6_flyAtDusk 3 = .ok (.istore_n 2, 1) := by decide +kernel
theorem dX6_flyAtDusk_4 : decode cX6_flyAtDusk 4 = .ok (.iload_n 2, 1) := by decide +kernel
theorem dX6_flyAtDusk_5 : decode cX6_flyAtDusk 5 = .ok (.aload_n 0, 1) := by decide +kernel
theorem dX6_flyAtDusk_6 : decode cX6_flyAtDusk 6 = .ok (.getfield 59, 3) := by decide +kernel
theorem dX6_flyAtDusk_9 : decode cX6_flyAtDusk 9 = .ok (.if_icmp .ge 99, 3) := by decide +kernel
theorem dX6_flyAtDusk_12 : decode cX6_flyAtDusk 12 = .ok (.bipush 9, 2) := by decide +kernel
theorem dX6_flyAtDusk_14 : decode cX6_flyAtDusk 14 = .ok (.istore_n 3, 1) := by decide +kernel
theorem dX6_flyAtDusk_15 : decode cX6_flyAtDusk 15 = .ok (.aload_n 0, 1) := by decide +kernel
theorem dX6_flyAtDusk_16 : decode cX6_flyAtDusk 16 = .ok (.iload_n 2, 1) := by decide +kernel
theorem dX6_flyAtDusk_17 : decode cX6_flyAtDusk 17 = .ok (.invokevirtual 145, 3) := by decide +kernel
theorem dX6_flyAtDusk_20 : decode cX6_flyAtDusk 20 = .ok (.ifCond .eq 31, 3) := by decide +kernel
theorem dX6_flyAtDusk_23 : decode cX6_flyAtDusk 23 = .ok (.aload_n 0, 1) := by decide +kernel
theorem dX6_flyAtDusk_24 : decode cX6_flyAtDusk 24 = .ok (.iload_n 2, 1) := by decide +kernel
theorem dX6_flyAtDusk_25 : decode cX6_flyAtDusk 25 = .ok (.invokevirtual 95, 3) := by decide +kernel
theorem dX6_flyAtDusk_28 : decode cX6_flyAtDusk 28 = .ok (.aload_n 0, 1) := by decide +kernel
theorem dX6_flyAtDusk_29 : decode cX6_flyAtDusk 29 = .ok (.aload_n 0, 1) := by decide +kernel
theorem dX6_flyAtDusk_30 : decode cX6_flyAtDusk 30 = .ok (.getfield 49, 3) := by decide +kernel
theorem dX6_flyAtDusk_33 : decode cX6_flyAtDusk 33 = .ok (.iload_n 2, 1) := by decide +kernel
theorem dX6_flyAtDusk_34 : decode cX6_flyAtDusk 34 = .ok (.iaload, 1) := by decide +kernel
theorem dX6_flyAtDusk_35 : decode cX6_flyAtDusk 35 = .ok (.aload_n 0, 1) := by decide +kernel
theorem dX6_flyAtDusk_36 : decode cX6_flyAtDusk 36 = .ok (.getfield 43, 3) := by decide +kernel
theorem dX6_flyAtDusk_39 : decode cX6_flyAtDusk 39 = .ok (.iload_n 2, 1) := by decide +kernel
theorem dX6_flyAtDusk_40 : decode cX6_flyAtDusk 40 = .ok (.iaload, 1) := by decide +kernel
theorem dX6_flyAtDusk_41 : decode cX6_flyAtDusk 41 = .ok (.aload_n 0, 1) := by decide +kernel
theorem dX6_flyAtDusk_42 : decode cX6_flyAtDusk 42 = .ok (.getfield 46, 3) := by decide +kernel
theorem dX6_flyAtDusk_45 : decode cX6_flyAtDusk 45 = .ok (.iload_n 2, 1) := by decide +kernel
theorem dX6_flyAtDusk_46 : decode cX6_flyAtDusk 46 = .ok (.iaload, 1) := by decide +kernel
theorem dX6_flyAtDusk_47 : decode cX6_flyAtDusk 47 = .ok (.invokevirtual 103, 3) := by decide +kernel
theorem dX6_flyAtDusk_50 : decode cX6_flyAtDusk 50 = .ok (.istore_n 3, 1) := by decide +kernel
theorem dX6_flyAtDusk_51 : decode cX6_flyAtDusk 51 = .ok (.iload_n 3, 1) := by decide +kernel
theorem dX6_flyAtDusk_52 : decode cX6_flyAtDusk 52 = .ok (.bipush 9, 2) := by decide +kernel
theorem dX6_flyAtDusk_54 : decode cX6_flyAtDusk 54 = .ok (.if_icmp .eq 35, 3) := by decide +kernel
theorem dX6_flyAtDusk_57 : decode cX6_flyAtDusk 57 = .ok (.aload_n 0, 1) := by decide +kernel
theorem dX6_flyAtDusk_58 : decode cX6_flyAtDusk 58 = .ok (.aload_n 0, 1) := by decide +kernel
theorem dX6_flyAtDusk_59 : decode cX6_flyAtDusk 59 = .ok (.getfield 49, 3) := by decide +kernel
theorem dX6_flyAtDusk_62 : decode cX6_flyAtDusk 62 = .ok (.iload_n 2, 1) := by decide +kernel
theorem dX6_flyAtDusk_63 : decode cX6_flyAtDusk 63 = .ok (.iaload, 1) := by decide +kernel
theorem dX6_flyAtDusk_64 : decode cX6_flyAtDusk 64 = .ok (.iload_n 3, 1) := by decide +kernel
theorem dX6_flyAtDusk_65 : decode cX6_flyAtDusk 65 = .ok (.invokevirtual 91, 3) := by decide +kernel
theorem dX6_flyAtDusk_68 : decode cX6_flyAtDusk 68 = .ok (.aload_n 0, 1) := by decide +kernel
theorem dX6_flyAtDusk_69 : decode cX6_flyAtDusk 69 = .ok (.getfield 65, 3) := by decide +kernel
theorem dX6_flyAtDusk_72 : decode cX6_flyAtDusk 72 = .ok (.if_icmp .le 17, 3) := by decide +kernel
theorem dX6_flyAtDusk_75 : decode cX6_flyAtDusk 75 = .ok (.aload_n 0, 1) := by decide +kernel
theorem dX6_flyAtDusk_76 : decode cX6_flyAtDusk 76 = .ok (.getfield 49, 3) := by decide +kernel
theorem dX6_flyAtDusk_79 : decode cX6_flyAtDusk 79 = .ok (.iload_n 2, 1) := by decide +kernel
theorem dX6_flyAtDusk_80 : decode cX6_flyAtDusk 80 = .ok (.bipush 9, 2) := by decide +kernel
theorem dX6_flyAtDusk_82 : decode cX6_flyAtDusk 82 = .ok (.iastore, 1) := by decide +kernel
theorem dX6_flyAtDusk_83 : decode cX6_flyAtDusk 83 = .ok (.iinc 1 1, 3) := by decide +kernel
theorem dX6_flyAtDusk_86 : decode cX6_flyAtDusk 86 = .ok (.goto 16, 3) := by decide +kernel
theorem dX6_flyAtDusk_89 : decode cX6_flyAtDusk 89 = .ok (.iload_n 3, 1) := by decide +kernel
theorem dX6_flyAtDusk_90 : decode cX6_flyAtDusk 90 = .ok (.bipush 9, 2) := by decide +kernel
theorem dX6_flyAtDusk_92 : decode cX6_flyAtDusk 92 = .ok (.if_icmp .eq 10, 3) := by decide +kernel
theorem dX6_flyAtDusk_95 : decode cX6_flyAtDusk 95 = .ok (.aload_n 0, 1) := by decide +kernel
theorem dX6_flyAtDusk_96 : decode cX6_flyAtDusk 96 = .ok (.getfield 49, 3) := by decide +kernel
theorem dX6_flyAtDusk_99 : decode cX6_flyAtDusk 99 = .ok (.iload_n 2, 1) := by decide +kernel
theorem dX6_flyAtDusk_100 : decode cX6_flyAtDusk 100 = .ok (.iload_n 3, 1) := by decide +kernel
theorem dX6_flyAtDusk_101 : decode cX6_flyAtDusk 101 = .ok (.iastore, 1) := by decide +kernel
theorem dX6_flyAtDusk_102 : decode cX6_flyAtDusk 102 = .ok (.iinc 2 1, 3) := by decide +kernel
theorem dX6_flyAtDusk_105 : decode cX6_flyAtDusk 105 = .ok (.goto (-101), 3) := by decide +kernel
theorem dX6_flyAtDusk_108 : decode cX6_flyAtDusk 108 = .ok (.iload_n 1, 1) := by decide +kernel
theorem dX6_flyAtDusk_109 : decode cX6_flyAtDusk 109 = .ok (.ireturn, 1) := by decide +kernel
theorem dX6_mayFly_0 : decode cX6_mayFly 0 = .ok (.aload_n 0, 1) := by decide +kernel
theorem dX6_mayFly_1 : decode cX6_mayFly 1 = .ok (.iload_n 1, 1) := by decide +kernel
theorem dX6_mayFly_2 : decode cX6_mayFly 2 = .ok (.invokevirtual 88, 3) := by decide +kernel
theorem dX6_mayFly_5 : decode cX6_mayFly 5 = .ok (.ifCond .ne 29, 3) := by decide +kernel
theorem dX6_mayFly_8 : decode cX6_mayFly 8 = .ok (.aload_n 0, 1) := by decide +kernel
theorem dX6_mayFly_9 : decode cX6_mayFly 9 = .ok (.getfield 52, 3) := by decide +kernel
theorem dX6_mayFly_12 : decode cX6_mayFly 12 = .ok (.iload_n 1, 1) := by decide +kernel
theorem dX6_mayFly_13 : decode cX6_mayFly 13 = .ok (.iaload, 1) := by decide +kernel
theorem dX6_mayFly_14 : decode cX6_mayFly 14 = .ok (.ifCond .ne 20, 3) := by decide +kernel
theorem dX6_mayFly_17 : decode cX6_mayFly 17 = .ok (.aload_n 0, 1) := by decide +kernel
theorem dX6_mayFly_18 : decode cX6_mayFly 18 = .ok (.aload_n 0, 1) := by decide +kernel
theorem dX6_mayFly_19 : decode cX6_mayFly 19 = .ok (.getfield 49, 3) := by decide +kernel
theorem dX6_mayFly_22 : decode cX6_mayFly 22 = .ok (.iload_n 1, 1) := by decide +kernel
theorem dX6_mayFly_23 : decode cX6_mayFly 23 = .ok (.iaload, 1) := by decide +kernel
theorem dX6_mayFly_24 : decode cX6_mayFly 24 = .ok (.invokevirtual 148, 3) := by decide +kernel
theorem dX6_mayFly_27 : decode cX6_mayFly 27 = .ok (.ifCond .eq 7, 3) := by decide +kernel
theorem dX6_mayFly_30 : decode cX6_mayFly 30 = .ok (.iconst 1, 1) := by decide +kernel
theorem dX6_mayFly_31 : decode cX6_mayFly 31 = .ok (.goto 4, 3) := by decide +kernel
theorem dX6_mayFly_34 : decode cX6_mayFly 34 = .ok (.iconst 0, 1) := by decide +kernel
theorem dX6_mayFly_35 : decode cX6_mayFly 35 = .ok (.ireturn, 1) := by decide +kernel
theorem dX6_wingsGrow_0 : decode cX6_wingsGrow 0 = .ok (.iconst 0, 1) := by decide +kernel
theorem dX6_wingsGrow_1 : decode cX6_wingsGrow 1 = .ok (.istore_n 1, 1) := by decide +kernel
theorem dX6_wingsGrow_2 : decode cX6_wingsGrow 2 = .ok (.iload_n 1, 1) := by decide +kernel
theorem dX6_wingsGrow_3 : decode cX6_wingsGrow 3 = .ok (.aload_n 0, 1) := by decide +kernel
theorem dX6_wingsGrow_4 : decode cX6_wingsGrow 4 = .ok (.getfield 59, 3) := by decide +kernel
theorem dX6_wingsGrow_7 : decode cX6_wingsGrow 7 = .ok (.if_icmp .ge 28, 3) := by decide +kernel
theorem dX6_wingsGrow_10 : decode cX6_wingsGrow 10 = .ok (.aload_n 0, 1) := by decide +kernel
theorem dX6_wingsGrow_11 : decode cX6_wingsGrow 11 = .ok (.getfield 52, 3) := by decide +kernel
theorem dX6_wingsGrow_14 : decode cX6_wingsGrow 14 = .ok (.iload_n 1, 1) := by decide +kernel
theorem dX6_wingsGrow_15 : decode cX6_wingsGrow 15 = .ok (.iaload, 1) := by decide +kernel
theorem dX6_wingsGrow_16 : decode cX6_wingsGrow 16 = .ok (.ifCond .le 13, 3) := by decide +kernel
theorem dX6_wingsGrow_19 : decode cX6_wingsGrow 19 = .ok (.aload_n 0, 1) := by decide +kernel
theorem dX6_wingsGrow_20 : decode cX6_wingsGrow 20 = .ok (.getfield 52, 3) := by decide +kernel
theorem dX6_wingsGrow_23 : decode cX6_wingsGrow 23 = .ok (.iload_n 1, 1) := by decide +kernel
theorem dX6_wingsGrow_24 : decode cX6_wingsGrow 24 = .ok (.dup2, 1) := by decide +kernel
theorem dX6_wingsGrow_25 : decode cX6_wingsGrow 25 = .ok (.iaload, 1) := by decide +kernel
theorem dX6_wingsGrow_26 : decode cX6_wingsGrow 26 = .ok (.iconst 1, 1) := by decide +kernel
theorem dX6_wingsGrow_27 : decode cX6_wingsGrow 27 = .ok (.isub, 1) := by decide +kernel
theorem dX6_wingsGrow_28 : decode cX6_wingsGrow 28 = .ok (.iastore, 1) := by decide +kernel
theorem dX6_wingsGrow_29 : decode cX6_wingsGrow 29 = .ok (.iinc 1 1, 3) := by decide +kernel
theorem dX6_wingsGrow_32 : decode cX6_wingsGrow 32 = .ok (.goto (-30), 3) := by decide +kernel
theorem dX6_wingsGrow_35 : decode cX6_wingsGrow 35 = .ok (.return_, 1) := by decide +kernel
theorem dX6_layEggs_0 : decode cX6_layEggs 0 = .ok (.aload_n 0, 1) := by decide +kernel
theorem dX6_layEggs_1 : decode cX6_layEggs 1 = .ok (.getfield 59, 3) := by decide +kernel
theorem dX6_layEggs_4 : decode cX6_layEggs 4 = .ok (.istore_n 1, 1) := by decide +kernel
theorem dX6_layEggs_5 : decode cX6_layEggs 5 = .ok (.iconst 0, 1) := by decide +kernel
theorem dX6_layEggs_6 : decode cX6_layEggs 6 = .ok (.istore_n 2, 1) := by decide +kernel
theorem dX6_layEggs_7 : decode cX6_layEggs 7 = .ok (.iload_n 2, 1) := by decide +kernel
theorem dX6_layEggs_8 : decode cX6_layEggs 8 = .ok (.iload_n 1, 1) := by decide +kernel
theorem dX6_layEggs_9 : decode cX6_layEggs 9 = .ok (.if_icmp .ge 47, 3) := by decide +kernel
theorem dX6_layEggs_12 : decode cX6_layEggs 12 = .ok (.aload_n 0, 1) := by decide +kernel
theorem dX6_layEggs_13 : decode cX6_layEggs 13 = .ok (.iload_n 2, 1) := by decide +kernel
theorem dX6_layEggs_14 : decode cX6_layEggs 14 = .ok (.invokevirtual 151, 3) := by decide +kernel
theorem dX6_layEggs_17 : decode cX6_layEggs 17 = .ok (.ifCond .eq 33, 3) := by decide +kernel
theorem dX6_layEggs_20 : decode cX6_layEggs 20 = .ok (.aload_n 0, 1) := by decide +kernel
theorem dX6_layEggs_21 : decode cX6_layEggs 21 = .ok (.iload_n 2, 1) := by decide +kernel
theorem dX6_layEggs_22 : decode cX6_layEggs 22 = .ok (.invokevirtual 95, 3) := by decide +kernel
theorem dX6_layEggs_25 : decode cX6_layEggs 25 = .ok (.aload_n 0, 1) := by decide +kernel
theorem dX6_layEggs_26 : decode cX6_layEggs 26 = .ok (.getfield 46, 3) := by decide +kernel
theorem dX6_layEggs_29 : decode cX6_layEggs 29 = .ok (.iload_n 2, 1) := by decide +kernel
theorem dX6_layEggs_30 : decode cX6_layEggs 30 = .ok (.iaload, 1) := by decide +kernel
theorem dX6_layEggs_31 : decode cX6_layEggs 31 = .ok (.invokevirtual 154, 3) := by decide +kernel
theorem dX6_layEggs_34 : decode cX6_layEggs 34 = .ok (.ifCond .eq 16, 3) := by decide +kernel
theorem dX6_layEggs_37 : decode cX6_layEggs 37 = .ok (.aload_n 0, 1) := by decide +kernel
theorem dX6_layEggs_38 : decode cX6_layEggs 38 = .ok (.iconst 0, 1) := by decide +kernel
theorem dX6_layEggs_39 : decode cX6_layEggs 39 = .ok (.aload_n 0, 1) := by decide +kernel
theorem dX6_layEggs_40 : decode cX6_layEggs 40 = .ok (.getfield 43, 3) := by decide +kernel
theorem dX6_layEggs_43 : decode cX6_layEggs 43 = .ok (.iload_n 2, 1) := by decide +kernel
theorem dX6_layEggs_44 : decode cX6_layEggs 44 = .ok (.iaload, 1) := by decide +kernel
theorem dX6_layEggs_45 : decode cX6_layEggs 45 = .ok (.iconst 0, 1) := by decide +kernel
theorem dX6_layEggs_46 : decode cX6_layEggs 46 = .ok (.invokevirtual 157, 3) := by decide +kernel
theorem dX6_layEggs_49 : decode cX6_layEggs 49 = .ok (.pop, 1) := by decide +kernel
theorem dX6_layEggs_50 : decode cX6_layEggs 50 = .ok (.iinc 2 1, 3) := by decide +kernel
theorem dX6_layEggs_53 : decode cX6_layEggs 53 = .ok (.goto (-46), 3) := by decide +kernel
theorem dX6_layEggs_56 : decode cX6_layEggs 56 = .ok (.return_, 1) := by decide +kernel
theorem dX6_growOlder_0 : decode cX6_growOlder 0 = .ok (.iconst 0, 1) := by decide +kernel
theorem dX6_growOlder_1 : decode cX6_growOlder 1 = .ok (.istore_n 2, 1) := by decide +kernel
theorem dX6_growOlder_2 : decode cX6_growOlder 2 = .ok (.iload_n 2, 1) := by decide +kernel
theorem dX6_growOlder_3 : decode cX6_growOlder 3 = .ok (.iload_n 1, 1) := by decide +kernel
theorem dX6_growOlder_4 : decode cX6_growOlder 4 = .ok (.if_icmp .ge 36, 3) := by decide +kernel
theorem dX6_growOlder_7 : decode cX6_growOlder 7 = .ok (.iload_n 2, 1) := by decide +kernel
theorem dX6_growOlder_8 : decode cX6_growOlder 8 = .ok (.aload_n 0, 1) := by decide +kernel
theorem dX6_growOlder_9 : decode cX6_growOlder 9 = .ok (.getfield 59, 3) := by decide +kernel
theorem dX6_growOlder_12 : decode cX6_growOlder 12 = .ok (.if_icmp .ge 28, 3) := by decide +kernel
theorem dX6_growOlder_15 : decode cX6_growOlder 15 = .ok (.aload_n 0, 1) := by decide +kernel
theorem dX6_growOlder_16 : decode cX6_growOlder 16 = .ok (.getfield 46, 3) := by decide +kernel
theorem dX6_growOlder_19 : decode cX6_growOlder 19 = .ok (.iload_n 2, 1) := by decide +kernel
theorem dX6_growOlder_20 : decode cX6_growOlder 20 = .ok (.aload_n 0, 1) := by decide +kernel
theorem dX6_growOlder_21 : decode cX6_growOlder 21 = .ok (.getfield 46, 3) := by decide +kernel
theorem dX6_growOlder_24 : decode cX6_growOlder 24 = .ok (.iload_n 2, 1) := by decide +kernel
theorem dX6_growOlder_25 : decode cX6_growOlder 25 = .ok (.iaload, 1) := by decide +kernel
theorem dX6_growOlder_26 : decode cX6_growOlder 26 = .ok (.iconst 1, 1) := by decide +kernel
theorem dX6_growOlder_27 : decode cX6_growOlder 27 = .ok (.iadd, 1) := by decide +kernel
theorem dX6_growOlder_28 : decode cX6_growOlder 28 = .ok (.bipush 9, 2) := by decide +kernel
theorem dX6_growOlder_30 : decode cX6_growOlder 30 = .ok (.invokestatic 161, 3) := by decide +kernel
theorem dX6_growOlder_33 : decode cX6_growOlder 33 = .ok (.iastore, 1) := by decide +kernel
theorem dX6_growOlder_34 : decode cX6_growOlder 34 = .ok (.iinc 2 1, 3) := by decide +kernel
theorem dX6_growOlder_37 : decode cX6_growOlder 37 = .ok (.goto (-35), 3) := by decide +kernel
theorem dX6_growOlder_40 : decode cX6_growOlder 40 = .ok (.return_, 1) := by decide +kernel
theorem dX7_init_0 : decode cX7_init 0 = .ok (.aload_n 0, 1) := by decide +kernel
theorem dX7_init_1 : decode cX7_init 1 = .ok (.invokespecial 3, 3) := by decide +kernel
theorem dX7_init_4 : decode cX7_init 4 = .ok (.return_, 1) := by decide +kernel
theorem dX7_aim_0 : decode cX7_aim 0 = .ok (.aload_n 1, 1) := by decide +kernel
theorem dX7_aim_1 : decode cX7_aim 1 = .ok (.iload_n 2, 1) := by decide +kernel
theorem dX7_aim_2 : decode cX7_aim 2 = .ok (.iload_n 3, 1) := by decide +kernel
theorem dX7_aim_3 : decode cX7_aim 3 = .ok (.invokevirtual 9, 3) := by decide +kernel
theorem dX7_aim_6 : decode cX7_aim 6 = .ok (.iconst 2, 1) := by decide +kernel
theorem dX7_aim_7 : decode cX7_aim 7 = .ok (.iload 4, 2) := by decide +kernel
theorem dX7_aim_9 : decode cX7_aim 9 = .ok (.imul, 1) := by decide +kernel
theorem dX7_aim_10 : decode cX7_aim 10 = .ok (.if_icmp .gt 7, 3) := by decide +kernel
theorem dX7_aim_13 : decode cX7_aim 13 = .ok (.iload_n 3, 1) := by decide +kernel
theorem dX7_aim_14 : decode cX7_aim 14 = .ok (.goto 5, 3) := by decide +kernel
theorem dX7_aim_17 : decode cX7_aim 17 = .ok (.bipush 9, 2) := by decide +kernel
theorem dX7_aim_19 : decode cX7_aim 19 = .ok (.ireturn, 1) := by decide +kernel
theorem dX7_worth_0 : decode cX7_worth 0 = .ok (.aload_n 0, 1) := by decide +kernel
theorem dX7_worth_1 : decode cX7_worth 1 = .ok (.iload_n 1, 1) := by decide +kernel
theorem dX7_worth_2 : decode cX7_worth 2 = .ok (.invokespecial 15, 3) := by decide +kernel
theorem dX7_worth_5 : decode cX7_worth 5 = .ok (.iconst 2, 1) := by decide +kernel
theorem dX7_worth_6 : decode cX7_worth 6 = .ok (.isub, 1) := by decide +kernel
theorem dX7_worth_7 : decode cX7_worth 7 = .ok (.ireturn, 1) := by decide +kernel
theorem dX8_init_0 : decode cX8_init 0 = .ok (.aload_n 0, 1) := by decide +kernel
theorem dX8_init_1 : decode cX8_init 1 = .ok (.invokespecial 1, 3) := by decide +kernel
theorem dX8_init_4 : decode cX8_init 4 = .ok (.aload_n 0, 1) := by decide +kernel
theorem dX8_init_5 : decode cX8_init 5 = .ok (.new 7, 3) := by decide +kernel
theorem dX8_init_8 : decode cX8_init 8 = .ok (.dup, 1) := by decide +kernel
theorem dX8_init_9 : decode cX8_init 9 = .ok (.invokespecial 9, 3) := by decide +kernel
theorem dX8_init_12 : decode cX8_init 12 = .ok (.putfield 10, 3) := by decide +kernel
theorem dX8_init_15 : decode cX8_init 15 = .ok (.aload_n 0, 1) := by decide +kernel
theorem dX8_init_16 : decode cX8_init 16 = .ok (.new 7, 3) := by decide +kernel
theorem dX8_init_19 : decode cX8_init 19 = .ok (.dup, 1) := by decide +kernel
theorem dX8_init_20 : decode cX8_init 20 = .ok (.invokespecial 9, 3) := by decide +kernel
theorem dX8_init_23 : decode cX8_init 23 = .ok (.putfield 16, 3) := by decide +kernel
theorem dX8_init_26 : decode cX8_init 26 = .ok (.aload_n 0, 1) := by decide +kernel
theorem dX8_init_27 : decode cX8_init 27 = .ok (.new 7, 3) := by decide +kernel
theorem dX8_init_30 : decode cX8_init 30 = .ok (.dup, 1) := by decide +kernel
theorem dX8_init_31 : decode cX8_init 31 = .ok (.invokespecial 9, 3) := by decide +kernel
theorem dX8_init_34 : decode cX8_init 34 = .ok (.putfield 19, 3) := by decide +kernel
theorem dX8_init_37 : decode cX8_init 37 = .ok (.aload_n 0, 1) := by decide +kernel
theorem dX8_init_38 : decode cX8_init 38 = .ok (.new 22, 3) := by decide +kernel
theorem dX8_init_41 : decode cX8_init 41 = .ok (.dup, 1) := by decide +kernel
theorem dX8_init_42 : decode cX8_init 42 = .ok (.invokespecial 24, 3) := by decide +kernel
theorem dX8_init_45 : decode cX8_init 45 = .ok (.putfield 25, 3) := by decide +kernel
theorem dX8_init_48 : decode cX8_init 48 = .ok (.aload_n 0, 1) := by decide +kernel
theorem dX8_init_49 : decode cX8_init 49 = .ok (.bipush 8, 2) := by decide +kernel
theorem dX8_init_51 : decode cX8_init 51 = .ok (.newarray .int, 2) := by decide +kernel
theorem dX8_init_53 : decode cX8_init 53 = .ok (.putfield 29, 3) := by decide +kernel
theorem dX8_init_56 : decode cX8_init 56 = .ok (.aload_n 0, 1) := by decide +kernel
theorem dX8_init_57 : decode cX8_init 57 = .ok (.bipush 6, 2) := by decide +kernel
theorem dX8_init_59 : decode cX8_init 59 = .ok (.newarray .int, 2) := by decide +kernel
theorem dX8_init_61 : decode cX8_init 61 = .ok (.putfield 33, 3) := by decide +kernel
theorem dX8_init_64 : decode cX8_init 64 = .ok (.aload_n 0, 1) := by decide +kernel
theorem dX8_init_65 : decode cX8_init 65 = .ok (.bipush 8, 2) := by decide +kernel
theorem dX8_init_67 : decode cX8_init 67 = .ok (.newarray .int, 2) := by decide +kernel
theorem dX8_init_69 : decode cX8_init 69 = .ok (.putfield 36, 3) := by decide +kernel
theorem dX8_init_72 : decode cX8_init 72 = .ok (.aload_n 0, 1) := by decide +kernel
theorem dX8_init_73 : decode cX8_init 73 = .ok (.bipush 7, 2) := by decide +kernel
theorem dX8_init_75 : decode cX8_init 75 = .ok (.newarray .int, 2) := by decide +kernel
theorem dX8_init_77 : decode cX8_init 77 = .ok (.putfield 39, 3) := by decide +kernel
theorem dX8_init_80 : decode cX8_init 80 = .ok (.aload_n 0, 1) := by decide +kernel
theorem dX8_init_81 : decode cX8_init 81 = .ok (.iconst 0, 1) := by decide +kernel
theorem dX8_init_82 : decode cX8_init 82 = .ok (.putfield 42, 3) := by decide +kernel
theorem dX8_init_85 : decode cX8_init 85 = .ok (.aload_n 0, 1) := by decide +kernel
theorem dX8_init_86 : decode cX8_init 86 = .ok (.iconst 0, 1) := by decide +kernel
theorem dX8_init_87 : decode cX8_init 87 = .ok (.putfield 46, 3) := by decide +kernel
theorem dX8_init_90 : decode cX8_init 90 = .ok (.return_, 1) := by decide +kernel
theorem dX8_letter_0 : decode cX8_letter 0 = .ok (.iload_n 1, 1) := by decide +kernel
theorem dX8_letter_1 : decode cX8_letter 1 = .ok (.iconst 0, 1) := by decide +kernel
theorem dX8_letter_2 : decode cX8_letter 2 = .ok (.sipush 255, 3) := by decide +kernel
theorem dX8_letter_5 : decode cX8_letter 5 = .ok (.invokestatic 50, 3) := by decide +kernel
theorem dX8_letter_8 : decode cX8_letter 8 = .ok (.istore_n 2, 1) := by decide +kernel
theorem dX8_letter_9 : decode cX8_letter 9 = .ok (.iload_n 2, 1) := by decide +kernel
theorem dX8_letter_10 : decode cX8_letter 10 = .ok (.ifCond .ne 16, 3) := by decide +kernel
theorem dX8_letter_13 : decode cX8_letter 13 = .ok (.aload_n 0, 1) := by decide +kernel
theorem dX8_letter_14 : decode cX8_letter 14 = .ok (.getfield 25, 3) := by decide +kernel
theorem dX8_letter_17 : decode cX8_letter 17 = .ok (.invokevirtual 54, 3) := by decide +kernel
theorem dX8_letter_20 : decode cX8_letter 20 = .ok (.ifCond .eq 6, 3) := by decide +kernel
theorem dX8_letter_23 : decode cX8_letter 23 = .ok (.bipush (-6), 2) := by decide +kernel
theorem dX8_letter_25 : decode cX8_letter 25 = .ok (.istore_n 2, 1) := by decide +kernel
theorem dX8_letter_26 : decode cX8_letter 26 = .ok (.iload_n 2, 1) := by decide +kernel
theorem dX8_letter_27 : decode cX8_letter 27 = .ok (.ifCond .eq 9, 3) := by decide +kernel
theorem dX8_letter_30 : decode cX8_letter 30 = .ok (.aload_n 0, 1) := by decide +kernel
theorem dX8_letter_31 : decode cX8_letter 31 = .ok (.iload_n 2, 1) := by decide +kernel
theorem dX8_letter_32 : decode cX8_letter 32 = .ok (.invokevirtual 58, 3) := by decide +kernel
theorem dX8_letter_35 : decode cX8_letter 35 = .ok (.ireturn, 1) := by decide +kernel
theorem dX8_letter_36 : decode cX8_letter 36 = .ok (.aload_n 0, 1) := by decide +kernel
theorem dX8_letter_37 : decode cX8_letter 37 = .ok (.getfield 25, 3) := by decide +kernel
theorem dX8_letter_40 : decode cX8_letter 40 = .ok (.iload_n 1, 1) := by decide +kernel
theorem dX8_letter_41 : decode cX8_letter 41 = .ok (.invokevirtual 62, 3) := by decide +kernel
theorem dX8_letter_44 : decode cX8_letter 44 = .ok (.aload_n 0, 1) := by decide +kernel
theorem dX8_letter_45 : decode cX8_letter 45 = .ok (.getfield 25, 3) := by decide +kernel
theorem dX8_letter_48 : decode cX8_letter 48 = .ok (.getfield 66, 3) := by decide +kernel
theorem dX8_letter_51 : decode cX8_letter 51 = .ok (.ireturn, 1) := by decide +kernel
theorem dX8_town_0 : decode cX8_town 0 = .ok (.aload_n 0, 1) := by decide +kernel
theorem dX8_town_1 : decode cX8_town 1 = .ok (.invokevirtual 69, 3) := by decide +kernel
theorem dX8_town_4 : decode cX8_town 4 = .ok (.istore_n 1, 1) := by decide +kernel
theorem dX8_town_5 : decode cX8_town 5 = .ok (.aload_n 0, 1) := by decide +kernel
theorem dX8_town_6 : decode cX8_town 6 = .ok (.getfield 25, 3) := by decide +kernel
theorem dX8_town_9 : decode cX8_town 9 = .ok (.invokevirtual 73, 3) := by decide +kernel
theorem dX8_town_12 : decode cX8_town 12 = .ok (.iload_n 1, 1) := by decide +kernel
theorem dX8_town_13 : decode cX8_town 13 = .ok (.ireturn, 1) := by decide +kernel
theorem dX8_loft_0 : decode cX8_loft 0 = .ok (.aload_n 0, 1) := by decide +kernel
theorem dX8_loft_1 : decode cX8_loft 1 = .ok (.getfield 10, 3) := by decide +kernel
theorem dX8_loft_4 : decode cX8_loft 4 = .ok (.iload_n 1, 1) := by decide +kernel
theorem dX8_loft_5 : decode cX8_loft 5 = .ok (.invokevirtual 76, 3) := by decide +kernel
theorem dX8_loft_8 : decode cX8_loft 8 = .ok (.ifCond .ne 9, 3) := by decide +kernel
theorem dX8_loft_11 : decode cX8_loft 11 = .ok (.aload_n 0, 1) := by decide +kernel
theorem dX8_loft_12 : decode cX8_loft 12 = .ok (.iconst (-1), 1) := by decide +kernel
theorem dX8_loft_13 : decode cX8_loft 13 = .ok (.invokevirtual 58, 3) := by decide +kernel
theorem dX8_loft_16 : decode cX8_loft 16 = .ok (.ireturn, 1) := by decide +kernel
theorem dX8_loft_17 : decode cX8_loft 17 = .ok (.iload_n 2, 1) := by decide +kernel
theorem dX8_loft_18 : decode cX8_loft 18 = .ok (.tableswitch 89 0 4 #[34, 44, 54, 71, 80], 34) := by decide +kernel
theorem dX8_loft_52 : decode cX8_loft 52 = .ok (.aload_n 0, 1) := by decide +kernel
theorem dX8_loft_53 : decode cX8_loft 53 = .ok (.getfield 10, 3) := by decide +kernel
theorem dX8_loft_56 : decode cX8_loft 56 = .ok (.getfield 80, 3) := by decide +kernel
theorem dX8_loft_59 : decode cX8_loft 59 = .ok (.iload_n 1, 1) := by decide +kernel
theorem dX8_loft_60 : decode cX8_loft 60 = .ok (.iaload, 1) := by decide +kernel
theorem dX8_loft_61 : decode cX8_loft 61 = .ok (.ireturn, 1) := by decide +kernel
theorem dX8_loft_62 : decode cX8_loft 62 = .ok (.aload_n 0, 1) := by decide +kernel
theorem dX8_loft_63 : decode cX8_loft 63 = .ok (.getfield 10, 3) := by decide +kernel
theorem dX8_loft_66 : decode cX8_loft 66 = .ok (.getfield 83, 3) := by decide +kernel
theorem dX8_loft_69 : decode cX8_loft 69 = .ok (.iload_n 1, 1) := by decide +kernel
theorem dX8_loft_70 : decode cX8_loft 70 = .ok (.iaload, 1) := by decide +kernel
theorem dX8_loft_71 : decode cX8_loft 71 = .ok (.ireturn, 1) := by decide +kernel
theorem dX8_loft_72 : decode cX8_loft 72 = .ok (.aload_n 0, 1) := by decide +kernel
theorem dX8_loft_73 : decode cX8_loft 73 = .ok (.getfield 10, 3) := by decide +kernel
theorem dX8_loft_76 : decode cX8_loft 76 = .ok (.iload_n 1, 1) := by decide +kernel
theorem dX8_loft_77 : decode cX8_loft 77 = .ok (.invokevirtual 86, 3) := by decide +kernel
theorem dX8_loft_80 : decode cX8_loft 80 = .ok (.ifCond .eq 7, 3) := by decide +kernel
theorem dX8_loft_83 : decode cX8_loft 83 = .ok (.iconst 1, 1) := by decide +kernel
theorem dX8_loft_84 : decode cX8_loft 84 = .ok (.goto 4, 3) := by decide +kernel
theorem dX8_loft_87 : decode cX8_loft 87 = .ok (.iconst 0, 1) := by decide +kernel
theorem dX8_loft_88 : decode cX8_loft 88 = .ok (.ireturn, 1) := by decide +kernel
theorem dX8_loft_89 : decode cX8_loft 89 = .ok (.aload_n 0, 1) := by decide +kernel
theorem dX8_loft_90 : decode cX8_loft 90 = .ok (.getfield 10, 3) := by decide +kernel
theorem dX8_loft_93 : decode cX8_loft 93 = .ok (.iload_n 1, 1) := by decide +kernel
theorem dX8_loft_94 : decode cX8_loft 94 = .ok (.invokevirtual 89, 3) := by decide +kernel
theorem dX8_loft_97 : decode cX8_loft 97 = .ok (.ireturn, 1) := by decide +kernel
theorem dX8_loft_98 : decode cX8_loft 98 = .ok (.aload_n 0, 1) := by decide +kernel
theorem dX8_loft_99 : decode cX8_loft 99 = .ok (.getfield 10, 3) := by decide +kernel
theorem dX8_loft_102 : decode cX8_loft 102 = .ok (.iload_n 1, 1) := by decide +kernel
theorem dX8_loft_103 : decode cX8_loft 103 = .ok (.invokevirtual 92, 3) := by decide +kernel
theorem dX8_loft_106 : decode cX8_loft 106 = .ok (.ireturn, 1) := by decide +kernel
theorem dX8_loft_107 : decode cX8_loft 107 = .ok (.aload_n 0, 1) := by decide +kernel
theorem dX8_loft_108 : decode cX8_loft 108 = .ok (.bipush (-2), 2) := by decide +kernel
theorem dX8_loft_110 : decode cX8_loft 110 = .ok (.invokevirtual 58, 3) := by decide +kernel
theorem dX8_loft_113 : decode cX8_loft 113 = .ok (.ireturn, 1) := by decide +kernel
theorem dX8_dove_0 : decode cX8_dove 0 = .ok (.aload_n 0, 1) := by decide +kernel
theorem dX8_dove_1 : decode cX8_dove 1 = .ok (.getfield 10, 3) := by decide +kernel
theorem dX8_dove_4 : decode cX8_dove 4 = .ok (.iload_n 1, 1) := by decide +kernel
theorem dX8_dove_5 : decode cX8_dove 5 = .ok (.invokevirtual 95, 3) := by decide +kernel
theorem dX8_dove_8 : decode cX8_dove 8 = .ok (.ifCond .ne 9, 3) := by decide +kernel
theorem dX8_dove_11 : decode cX8_dove 11 = .ok (.aload_n 0, 1) := by decide +kernel
theorem dX8_dove_12 : decode cX8_dove 12 = .ok (.iconst (-1), 1) := by decide +kernel
theorem dX8_dove_13 : decode cX8_dove 13 = .ok (.invokevirtual 58, 3) := by decide +kernel
theorem dX8_dove_16 : decode cX8_dove 16 = .ok (.ireturn, 1) := by decide +kernel
theorem dX8_dove_17 : decode cX8_dove 17 = .ok (.iload_n 2, 1) := by decide +kernel
theorem dX8_dove_18 : decode cX8_dove 18 = .ok (.tableswitch 110 0 6 #[42, 52, 62, 72, 82, 92, 101], 42) := by decide +kernel
theorem dX8_dove_60 : decode cX8_dove 60 = .ok (.aload_n 0, 1) := by decide +kernel
theorem dX8_dove_61 : decode cX8_dove 61 = .ok (.getfield 10, 3) := by decide +kernel
theorem dX8_dove_64 : decode cX8_dove 64 = .ok (.getfield 98, 3) := by decide +kernel
theorem dX8_dove_67 : decode cX8_dove 67 = .ok (.iload_n 1, 1) := by decide +kernel
theorem dX8_dove_68 : decode cX8_dove 68 = .ok (.iaload, 1) := by decide +kernel
theorem dX8_dove_69 : decode cX8_dove 69 = .ok (.ireturn, 1) := by decide +kernel
theorem dX8_dove_70 : decode cX8_dove 70 = .ok (.aload_n 0, 1) := by decide +kernel
theorem dX8_dove_71 : decode cX8_dove 71 = .ok (.getfield 10, 3) := by decide +kernel
theorem dX8_dove_74 : decode cX8_dove 74 = .ok (.getfield 101, 3) := by decide +kernel
theorem dX8_dove_77 : decode cX8_dove 77 = .ok (.iload_n 1, 1) := by decide +kernel
theorem dX8_dove_78 : decode cX8_dove 78 = .ok (.iaload, 1) := by decide +kernel
theorem dX8_dove_79 : decode cX8_dove 79 = .ok (.ireturn, 1) := by decide +kernel
theorem dX8_dove_80 : decode cX8_dove 80 = .ok (.aload_n 0, 1) := by decide +kernel
theorem dX8_dove_81 : decode cX8_dove 81 = .ok (.getfield 10, 3) := by decide +kernel
theorem dX8_dove_84 : decode cX8_dove 84 = .ok (.getfield 104, 3) := by decide +kernel
theorem dX8_dove_87 : decode cX8_dove 87 = .ok (.iload_n 1, 1) := by decide +kernel
theorem dX8_dove_88 : decode cX8_dove 88 = .ok (.iaload, 1) := by decide +kernel
theorem dX8_dove_89 : decode cX8_dove 89 = .ok (.ireturn, 1) := by decide +kernel
theorem dX8_dove_90 : decode cX8_dove 90 = .ok (.aload_n 0, 1) := by decide +kernel
theorem dX8_dove_91 : decode cX8_dove 91 = .ok (.getfield 10, 3) := by decide +kernel
theorem dX8_dove_94 : decode cX8_dove 94 = .ok (.getfield 107, 3) := by decide +kernel
theorem dX8_dove_97 : decode cX8_dove 97 = .ok (.iload_n 1, 1) := by decide +kernel
theorem dX8_dove_98 : decode cX8_dove 98 = .ok (.iaload, 1) := by decide +kernel
theorem dX8_dove_99 : decode cX8_dove 99 = .ok (.ireturn, 1) := by decide +kernel
theorem dX8_dove_100 : decode cX8_dove 100 = .ok (.aload_n 0, 1) := by decide +kernel
theorem dX8_dove_101 : decode cX8_dove 101 = .ok (.getfield 10, 3) := by decide +kernel
theorem dX8_dove_104 : decode cX8_dove 104 = .ok (.getfield 110, 3) := by decide +kernel
theorem dX8_dove_107 : decode cX8_dove 107 = .ok (.iload_n 1, 1) := by decide +kernel
theorem dX8_dove_108 : decode cX8_dove 108 = .ok (.iaload, 1) := by decide +kernel
theorem dX8_dove_109 : decode cX8_dove 109 = .ok (.ireturn, 1) := by decide +kernel
theorem dX8_dove_110 : decode cX8_dove 110 = .ok (.aload_n 0, 1) := by decide +kernel
theorem dX8_dove_111 : decode cX8_dove 111 = .ok (.getfield 10, 3) := by decide +kernel
theorem dX8_dove_114 : decode cX8_dove 114 = .ok (.iload_n 1, 1) := by decide +kernel
theorem dX8_dove_115 : decode cX8_dove 115 = .ok (.invokevirtual 113, 3) := by decide +kernel
theorem dX8_dove_118 : decode cX8_dove 118 = .ok (.ireturn, 1) := by decide +kernel
theorem dX8_dove_119 : decode cX8_dove 119 = .ok (.aload_n 0, 1) := by decide +kernel
theorem dX8_dove_120 : decode cX8_dove 120 = .ok (.getfield 10, 3) := by decide +kernel
theorem dX8_dove_123 : decode cX8_dove 123 = .ok (.iload_n 1, 1) := by decide +kernel
theorem dX8_dove_124 : decode cX8_dove 124 = .ok (.invokevirtual 116, 3) := by decide +kernel
theorem dX8_dove_127 : decode cX8_dove 127 = .ok (.ireturn, 1) := by decide +kernel
theorem dX8_dove_128 : decode cX8_dove 128 = .ok (.aload_n 0, 1) := by decide +kernel
theorem dX8_dove_129 : decode cX8_dove 129 = .ok (.bipush (-2), 2) := by decide +kernel
theorem dX8_dove_131 : decode cX8_dove 131 = .ok (.invokevirtual 58, 3) := by decide +kernel
theorem dX8_dove_134 : decode cX8_dove 134 = .ok (.ireturn, 1) := by decide +kernel
theorem dX8_open_0 : decode cX8_open 0 = .ok (.aload_n 0, 1) := by decide +kernel
theorem dX8_open_1 : decode cX8_open 1 = .ok (.getfield 10, 3) := by decide +kernel
theorem dX8_open_4 : decode cX8_open 4 = .ok (.iload_n 1, 1) := by decide +kernel
theorem dX8_open_5 : decode cX8_open 5 = .ok (.invokevirtual 76, 3) := by decide +kernel
theorem dX8_open_8 : decode cX8_open 8 = .ok (.ifCond .ne 9, 3) := by decide +kernel
theorem dX8_open_11 : decode cX8_open 11 = .ok (.aload_n 0, 1) := by decide +kernel
theorem dX8_open_12 : decode cX8_open 12 = .ok (.iconst (-1), 1) := by decide +kernel
theorem dX8_open_13 : decode cX8_open 13 = .ok (.invokevirtual 58, 3) := by decide +kernel
theorem dX8_open_16 : decode cX8_open 16 = .ok (.ireturn, 1) := by decide +kernel
theorem dX8_open_17 : decode cX8_open 17 = .ok (.iload_n 2, 1) := by decide +kernel
theorem dX8_open_18 : decode cX8_open 18 = .ok (.ifCond .eq 15, 3) := by decide +kernel
theorem dX8_open_21 : decode cX8_open 21 = .ok (.iload_n 2, 1) := by decide +kernel
theorem dX8_open_22 : decode cX8_open 22 = .ok (.iconst 1, 1) := by decide +kernel
theorem dX8_open_23 : decode cX8_open 23 = .ok (.if_icmp .eq 10, 3) := by decide +kernel
theorem dX8_open_26 : decode cX8_open 26 = .ok (.aload_n 0, 1) := by decide +kernel
theorem dX8_open_27 : decode cX8_open 27 = .ok (.bipush (-2), 2) := by decide +kernel
theorem dX8_open_29 : decode cX8_open 29 = .ok (.invokevirtual 58, 3) := by decide +kernel
theorem dX8_open_32 : decode cX8_open 32 = .ok (.ireturn, 1) := by decide +kernel
theorem dX8_open_33 : decode cX8_open 33 = .ok (.aload_n 0, 1) := by decide +kernel
theorem dX8_open_34 : decode cX8_open 34 = .ok (.getfield 10, 3) := by decide +kernel
theorem dX8_open_37 : decode cX8_open 37 = .ok (.iload_n 1, 1) := by decide +kernel
theorem dX8_open_38 : decode cX8_open 38 = .ok (.invokevirtual 86, 3) := by decide +kernel
theorem dX8_open_41 : decode cX8_open 41 = .ok (.ifCond .eq 7, 3) := by decide +kernel
theorem dX8_open_44 : decode cX8_open 44 = .ok (.iconst 1, 1) := by decide +kernel
theorem dX8_open_45 : decode cX8_open 45 = .ok (.goto 4, 3) := by decide +kernel
theorem dX8_open_48 : decode cX8_open 48 = .ok (.iconst 0, 1) := by decide +kernel
theorem dX8_open_49 : decode cX8_open 49 = .ok (.istore_n 3, 1) := by decide +kernel
theorem dX8_open_50 : decode cX8_open 50 = .ok (.iload_n 3, 1) := by decide +kernel
theorem dX8_open_51 : decode cX8_open 51 = .ok (.iload_n 2, 1) := by decide +kernel
theorem dX8_open_52 : decode cX8_open 52 = .ok (.if_icmp .eq 12, 3) := by decide +kernel
theorem dX8_open_55 : decode cX8_open 55 = .ok (.aload_n 0, 1) := by decide +kernel
theorem dX8_open_56 : decode cX8_open 56 = .ok (.getfield 10, 3) := by decide +kernel
theorem dX8_open_59 : decode cX8_open 59 = .ok (.iload_n 1, 1) := by decide +kernel
theorem dX8_open_60 : decode cX8_open 60 = .ok (.invokevirtual 119, 3) := by decide +kernel
theorem dX8_open_63 : decode cX8_open 63 = .ok (.pop, 1) := by decide +kernel
theorem dX8_open_64 : decode cX8_open 64 = .ok (.iload_n 3, 1) := by decide +kernel
theorem dX8_open_65 : decode cX8_open 65 = .ok (.ireturn, 1) := by decide +kernel
theorem dX8_hawk_0 : decode cX8_hawk 0 = .ok (.iload_n 1, 1) := by decide +kernel
theorem dX8_hawk_1 : decode cX8_hawk 1 = .ok (.iconst 0, 1) := by decide +kernel
theorem dX8_hawk_2 : decode cX8_hawk 2 = .ok (.bipush 20, 2) := by decide +kernel
theorem dX8_hawk_4 : decode cX8_hawk 4 = .ok (.invokestatic 50, 3) := by decide +kernel
theorem dX8_hawk_7 : decode cX8_hawk 7 = .ok (.istore_n 2, 1) := by decide +kernel
theorem dX8_hawk_8 : decode cX8_hawk 8 = .ok (.iload_n 2, 1) := by decide +kernel
theorem dX8_hawk_9 : decode cX8_hawk 9 = .ok (.ifCond .eq 9, 3) := by decide +kernel
theorem dX8_hawk_12 : decode cX8_hawk 12 = .ok (.aload_n 0, 1) := by decide +kernel
theorem dX8_hawk_13 : decode cX8_hawk 13 = .ok (.iload_n 2, 1) := by decide +kernel
theorem dX8_hawk_14 : decode cX8_hawk 14 = .ok (.invokevirtual 58, 3) := by decide +kernel
theorem dX8_hawk_17 : decode cX8_hawk 17 = .ok (.ireturn, 1) := by decide +kernel
theorem dX8_hawk_18 : decode cX8_hawk 18 = .ok (.aload_n 0, 1) := by decide +kernel
theorem dX8_hawk_19 : decode cX8_hawk 19 = .ok (.getfield 10, 3) := by decide +kernel
theorem dX8_hawk_22 : decode cX8_hawk 22 = .ok (.getfield 122, 3) := by decide +kernel
theorem dX8_hawk_25 : decode cX8_hawk 25 = .ok (.istore_n 3, 1) := by decide +kernel
theorem dX8_hawk_26 : decode cX8_hawk 26 = .ok (.aload_n 0, 1) := by decide +kernel
theorem dX8_hawk_27 : decode cX8_hawk 27 = .ok (.getfield 10, 3) := by decide +kernel
theorem dX8_hawk_30 : decode cX8_hawk 30 = .ok (.iload_n 1, 1) := by decide +kernel
theorem dX8_hawk_31 : decode cX8_hawk 31 = .ok (.putfield 122, 3) := by decide +kernel
theorem dX8_hawk_34 : decode cX8_hawk 34 = .ok (.iload_n 3, 1) := by decide +kernel
theorem dX8_hawk_35 : decode cX8_hawk 35 = .ok (.ireturn, 1) := by decide +kernel
theorem dX8_carry_0 : decode cX8_carry 0 = .ok (.aload_n 0, 1) := by decide +kernel
theorem dX8_carry_1 : decode cX8_carry 1 = .ok (.getfield 10, 3) := by decide +kernel
theorem dX8_carry_4 : decode cX8_carry 4 = .ok (.iload_n 1, 1) := by decide +kernel
theorem dX8_carry_5 : decode cX8_carry 5 = .ok (.invokevirtual 95, 3) := by decide +kernel
theorem dX8_carry_8 : decode cX8_carry 8 = .ok (.ifCond .eq 14, 3) := by decide +kernel
theorem dX8_carry_11 : decode cX8_carry 11 = .ok (.aload_n 0, 1) := by decide +kernel
theorem dX8_carry_12 : decode cX8_carry 12 = .ok (.getfield 10, 3) := by decide +kernel
theorem dX8_carry_15 : decode cX8_carry 15 = .ok (.iload_n 2, 1) := by decide +kernel
theorem dX8_carry_16 : decode cX8_carry 16 = .ok (.invokevirtual 76, 3) := by decide +kernel
theorem dX8_carry_19 : decode cX8_carry 19 = .ok (.ifCond .ne 9, 3) := by decide +kernel
theorem dX8_carry_22 : decode cX8_carry 22 = .ok (.aload_n 0, 1) := by decide +kernel
theorem dX8_carry_23 : decode cX8_carry 23 = .ok (.iconst (-1), 1) := by decide +kernel
theorem dX8_carry_24 : decode cX8_carry 24 = .ok (.invokevirtual 58, 3) := by decide +kernel
theorem dX8_carry_27 : decode cX8_carry 27 = .ok (.ireturn, 1) := by decide +kernel
theorem dX8_carry_28 : decode cX8_carry 28 = .ok (.aload_n 0, 1) := by decide +kernel
theorem dX8_carry_29 : decode cX8_carry 29 = .ok (.getfield 10, 3) := by decide +kernel
theorem dX8_carry_32 : decode cX8_carry 32 = .ok (.iload_n 1, 1) := by decide +kernel
theorem dX8_carry_33 : decode cX8_carry 33 = .ok (.invokevirtual 125, 3) := by decide +kernel
theorem dX8_carry_36 : decode cX8_carry 36 = .ok (.ifCond .eq 10, 3) := by decide +kernel
theorem dX8_carry_39 : decode cX8_carry 39 = .ok (.aload_n 0, 1) := by decide +kernel
theorem dX8_carry_40 : decode cX8_carry 40 = .ok (.bipush (-3), 2) := by decide +kernel
theorem dX8_carry_42 : decode cX8_carry 42 = .ok (.invokevirtual 58, 3) := by decide +kernel
theorem dX8_carry_45 : decode cX8_carry 45 = .ok (.ireturn, 1) := by decide +kernel
theorem dX8_carry_46 : decode cX8_carry 46 = .ok (.aload_n 0, 1) := by decide +kernel
theorem dX8_carry_47 : decode cX8_carry 47 = .ok (.getfield 10, 3) := by decide +kernel
theorem dX8_carry_50 : decode cX8_carry 50 = .ok (.getfield 107, 3) := by decide +kernel
theorem dX8_carry_53 : decode cX8_carry 53 = .ok (.iload_n 1, 1) := by decide +kernel
theorem dX8_carry_54 : decode cX8_carry 54 = .ok (.iaload, 1) := by decide +kernel
theorem dX8_carry_55 : decode cX8_carry 55 = .ok (.istore_n 3, 1) := by decide +kernel
theorem dX8_carry_56 : decode cX8_carry 56 = .ok (.aload_n 0, 1) := by decide +kernel
theorem dX8_carry_57 : decode cX8_carry 57 = .ok (.getfield 10, 3) := by decide +kernel
theorem dX8_carry_60 : decode cX8_carry 60 = .ok (.getfield 107, 3) := by decide +kernel
theorem dX8_carry_63 : decode cX8_carry 63 = .ok (.iload_n 1, 1) := by decide +kernel
theorem dX8_carry_64 : decode cX8_carry 64 = .ok (.iload_n 2, 1) := by decide +kernel
theorem dX8_carry_65 : decode cX8_carry 65 = .ok (.iastore, 1) := by decide +kernel
theorem dX8_carry_66 : decode cX8_carry 66 = .ok (.iload_n 3, 1) := by decide +kernel
theorem dX8_carry_67 : decode cX8_carry 67 = .ok (.ireturn, 1) := by decide +kernel
theorem dX8_clip_0 : decode cX8_clip 0 = .ok (.aload_n 0, 1) := by decide +kernel
theorem dX8_clip_1 : decode cX8_clip 1 = .ok (.getfield 10, 3) := by decide +kernel
theorem dX8_clip_4 : decode cX8_clip 4 = .ok (.iload_n 1, 1) := by decide +kernel
theorem dX8_clip_5 : decode cX8_clip 5 = .ok (.invokevirtual 95, 3) := by decide +kernel
theorem dX8_clip_8 : decode cX8_clip 8 = .ok (.ifCond .eq 13, 3) := by decide +kernel
theorem dX8_clip_11 : decode cX8_clip 11 = .ok (.iload_n 2, 1) := by decide +kernel
theorem dX8_clip_12 : decode cX8_clip 12 = .ok (.iconst 0, 1) := by decide +kernel
theorem dX8_clip_13 : decode cX8_clip 13 = .ok (.bipush 9, 2) := by decide +kernel
theorem dX8_clip_15 : decode cX8_clip 15 = .ok (.invokestatic 50, 3) := by decide +kernel
theorem dX8_clip_18 : decode cX8_clip 18 = .ok (.goto 4, 3) := by decide +kernel
theorem dX8_clip_21 : decode cX8_clip 21 = .ok (.iconst (-1), 1) := by decide +kernel
theorem dX8_clip_22 : decode cX8_clip 22 = .ok (.istore_n 3, 1) := by decide +kernel
theorem dX8_clip_23 : decode cX8_clip 23 = .ok (.iload_n 3, 1) := by decide +kernel
theorem dX8_clip_24 : decode cX8_clip 24 = .ok (.ifCond .eq 9, 3) := by decide +kernel
theorem dX8_clip_27 : decode cX8_clip 27 = .ok (.aload_n 0, 1) := by decide +kernel
theorem dX8_clip_28 : decode cX8_clip 28 = .ok (.iload_n 3, 1) := by decide +kernel
theorem dX8_clip_29 : decode cX8_clip 29 = .ok (.invokevirtual 58, 3) := by decide +kernel
theorem dX8_clip_32 : decode cX8_clip 32 = .ok (.ireturn, 1) := by decide +kernel
theorem dX8_clip_33 : decode cX8_clip 33 = .ok (.aload_n 0, 1) := by decide +kernel
theorem dX8_clip_34 : decode cX8_clip 34 = .ok (.getfield 10, 3) := by decide +kernel
theorem dX8_clip_37 : decode cX8_clip 37 = .ok (.getfield 110, 3) := by decide +kernel
theorem dX8_clip_40 : decode cX8_clip 40 = .ok (.iload_n 1, 1) := by decide +kernel
theorem dX8_clip_41 : decode cX8_clip 41 = .ok (.iaload, 1) := by decide +kernel
theorem dX8_clip_42 : decode cX8_clip 42 = .ok (.istore 4, 2) := by decide +kernel
theorem dX8_clip_44 : decode cX8_clip 44 = .ok (.aload_n 0, 1) := by decide +kernel
theorem dX8_clip_45 : decode cX8_clip 45 = .ok (.getfield 10, 3) := by decide +kernel
theorem dX8_clip_48 : decode cX8_clip 48 = .ok (.getfield 110, 3) := by decide +kernel
theorem dX8_clip_51 : decode cX8_clip 51 = .ok (.iload_n 1, 1) := by decide +kernel
theorem dX8_clip_52 : decode cX8_clip 52 = .ok (.iload_n 2, 1) := by decide +kernel
theorem dX8_clip_53 : decode cX8_clip 53 = .ok (.iastore, 1) := by decide +kernel
theorem dX8_clip_54 : decode cX8_clip 54 = .ok (.iload 4, 2) := by decide +kernel
theorem dX8_clip_56 : decode cX8_clip 56 = .ok (.ireturn, 1) := by decide +kernel
theorem dX8_go_0 : decode cX8_go 0 = .ok (.aload_n 0, 1) := by decide +kernel
theorem dX8_go_1 : decode cX8_go 1 = .ok (.getfield 10, 3) := by decide +kernel
theorem dX8_go_4 : decode cX8_go 4 = .ok (.iload_n 1, 1) := by decide +kernel
theorem dX8_go_5 : decode cX8_go 5 = .ok (.invokevirtual 95, 3) := by decide +kernel
theorem dX8_go_8 : decode cX8_go 8 = .ok (.ifCond .ne 9, 3) := by decide +kernel
theorem dX8_go_11 : decode cX8_go 11 = .ok (.aload_n 0, 1) := by decide +kernel
theorem dX8_go_12 : decode cX8_go 12 = .ok (.iconst (-1), 1) := by decide +kernel
theorem dX8_go_13 : decode cX8_go 13 = .ok (.invokevirtual 58, 3) := by decide +kernel
theorem dX8_go_16 : decode cX8_go 16 = .ok (.ireturn, 1) := by decide +kernel
theorem dX8_go_17 : decode cX8_go 17 = .ok (.aload_n 0, 1) := by decide +kernel
theorem dX8_go_18 : decode cX8_go 18 = .ok (.getfield 10, 3) := by decide +kernel
theorem dX8_go_21 : decode cX8_go 21 = .ok (.iload_n 1, 1) := by decide +kernel
theorem dX8_go_22 : decode cX8_go 22 = .ok (.invokevirtual 125, 3) := by decide +kernel
theorem dX8_go_25 : decode cX8_go 25 = .ok (.ifCond .ne 15, 3) := by decide +kernel
theorem dX8_go_28 : decode cX8_go 28 = .ok (.aload_n 0, 1) := by decide +kernel
theorem dX8_go_29 : decode cX8_go 29 = .ok (.getfield 10, 3) := by decide +kernel
theorem dX8_go_32 : decode cX8_go 32 = .ok (.getfield 110, 3) := by decide +kernel
theorem dX8_go_35 : decode cX8_go 35 = .ok (.iload_n 1, 1) := by decide +kernel
theorem dX8_go_36 : decode cX8_go 36 = .ok (.iaload, 1) := by decide +kernel
theorem dX8_go_37 : decode cX8_go 37 = .ok (.ifCond .le 10, 3) := by decide +kernel
theorem dX8_go_40 : decode cX8_go 40 = .ok (.aload_n 0, 1) := by decide +kernel
theorem dX8_go_41 : decode cX8_go 41 = .ok (.bipush (-3), 2) := by decide +kernel
theorem dX8_go_43 : decode cX8_go 43 = .ok (.invokevirtual 58, 3) := by decide +kernel
theorem dX8_go_46 : decode cX8_go 46 = .ok (.ireturn, 1) := by decide +kernel
theorem dX8_go_47 : decode cX8_go 47 = .ok (.aload_n 0, 1) := by decide +kernel
theorem dX8_go_48 : decode cX8_go 48 = .ok (.getfield 10, 3) := by decide +kernel
theorem dX8_go_51 : decode cX8_go 51 = .ok (.getfield 107, 3) := by decide +kernel
theorem dX8_go_54 : decode cX8_go 54 = .ok (.iload_n 1, 1) := by decide +kernel
theorem dX8_go_55 : decode cX8_go 55 = .ok (.aload_n 0, 1) := by decide +kernel
theorem dX8_go_56 : decode cX8_go 56 = .ok (.getfield 10, 3) := by decide +kernel
theorem dX8_go_59 : decode cX8_go 59 = .ok (.iload_n 1, 1) := by decide +kernel
theorem dX8_go_60 : decode cX8_go 60 = .ok (.invokevirtual 128, 3) := by decide +kernel
theorem dX8_go_63 : decode cX8_go 63 = .ok (.iastore, 1) := by decide +kernel
theorem dX8_go_64 : decode cX8_go 64 = .ok (.aload_n 0, 1) := by decide +kernel
theorem dX8_go_65 : decode cX8_go 65 = .ok (.getfield 10, 3) := by decide +kernel
theorem dX8_go_68 : decode cX8_go 68 = .ok (.getfield 107, 3) := by decide +kernel
theorem dX8_go_71 : decode cX8_go 71 = .ok (.iload_n 1, 1) := by decide +kernel
theorem dX8_go_72 : decode cX8_go 72 = .ok (.iaload, 1) := by decide +kernel
theorem dX8_go_73 : decode cX8_go 73 = .ok (.ireturn, 1) := by decide +kernel
theorem dX8_dusk_0 : decode cX8_dusk 0 = .ok (.aload_n 0, 1) := by decide +kernel
theorem dX8_dusk_1 : decode cX8_dusk 1 = .ok (.getfield 10, 3) := by decide +kernel
theorem dX8_dusk_4 : decode cX8_dusk 4 = .ok (.getfield 131, 3) := by decide +kernel
theorem dX8_dusk_7 : decode cX8_dusk 7 = .ok (.sipush 999, 3) := by decide +kernel
theorem dX8_dusk_10 : decode cX8_dusk 10 = .ok (.if_icmp .lt 10, 3) := by decide +kernel
theorem dX8_dusk_13 : decode cX8_dusk 13 = .ok (.aload_n 0, 1) := by decide +kernel
theorem dX8_dusk_14 : decode cX8_dusk 14 = .ok (.bipush (-6), 2) := by decide +kernel
theorem dX8_dusk_16 : decode cX8_dusk 16 = .ok (.invokevirtual 58, 3) := by decide +kernel
theorem dX8_dusk_19 : decode cX8_dusk 19 = .ok (.ireturn, 1) := by decide +kernel
theorem dX8_dusk_20 : decode cX8_dusk 20 = .ok (.aload_n 0, 1) := by decide +kernel
theorem dX8_dusk_21 : decode cX8_dusk 21 = .ok (.getfield 10, 3) := by decide +kernel
theorem dX8_dusk_24 : decode cX8_dusk 24 = .ok (.invokevirtual 134, 3) := by decide +kernel
theorem dX8_dusk_27 : decode cX8_dusk 27 = .ok (.ireturn, 1) := by decide +kernel
theorem dX8_way_0 : decode cX8_way 0 = .ok (.aload_n 0, 1) := by decide +kernel
theorem dX8_way_1 : decode cX8_way 1 = .ok (.getfield 10, 3) := by decide +kernel
theorem dX8_way_4 : decode cX8_way 4 = .ok (.iload_n 1, 1) := by decide +kernel
theorem dX8_way_5 : decode cX8_way 5 = .ok (.invokevirtual 76, 3) := by decide +kernel
theorem dX8_way_8 : decode cX8_way 8 = .ok (.ifCond .eq 14, 3) := by decide +kernel
theorem dX8_way_11 : decode cX8_way 11 = .ok (.aload_n 0, 1) := by decide +kernel
theorem dX8_way_12 : decode cX8_way 12 = .ok (.getfield 10, 3) := by decide +kernel
theorem dX8_way_15 : decode cX8_way 15 = .ok (.iload_n 2, 1) := by decide +kernel
theorem dX8_way_16 : decode cX8_way 16 = .ok (.invokevirtual 76, 3) := by decide +kernel
theorem dX8_way_19 : decode cX8_way 19 = .ok (.ifCond .ne 9, 3) := by decide +kernel
theorem dX8_way_22 : decode cX8_way 22 = .ok (.aload_n 0, 1) := by decide +kernel
theorem dX8_way_23 : decode cX8_way 23 = .ok (.iconst (-1), 1) := by decide +kernel
theorem dX8_way_24 : decode cX8_way 24 = .ok (.invokevirtual 58, 3) := by decide +kernel
theorem dX8_way_27 : decode cX8_way 27 = .ok (.ireturn, 1) := by decide +kernel
theorem dX8_way_28 : decode cX8_way 28 = .ok (.aload_n 0, 1) := by decide +kernel
theorem dX8_way_29 : decode cX8_way 29 = .ok (.getfield 10, 3) := by decide +kernel
theorem dX8_way_32 : decode cX8_way 32 = .ok (.iload_n 1, 1) := by decide +kernel
theorem dX8_way_33 : decode cX8_way 33 = .ok (.iload_n 2, 1) := by decide +kernel
theorem dX8_way_34 : decode cX8_way 34 = .ok (.invokevirtual 137, 3) := by decide +kernel
theorem dX8_way_37 : decode cX8_way 37 = .ok (.ireturn, 1) := by decide +kernel
theorem dX8_purse_0 : decode cX8_purse 0 = .ok (.aload_n 0, 1) := by decide +kernel
theorem dX8_purse_1 : decode cX8_purse 1 = .ok (.getfield 10, 3) := by decide +kernel
theorem dX8_purse_4 : decode cX8_purse 4 = .ok (.iload_n 1, 1) := by decide +kernel
theorem dX8_purse_5 : decode cX8_purse 5 = .ok (.invokevirtual 76, 3) := by decide +kernel
theorem dX8_purse_8 : decode cX8_purse 8 = .ok (.ifCond .eq 13, 3) := by decide +kernel
theorem dX8_purse_11 : decode cX8_purse 11 = .ok (.iload_n 2, 1) := by decide +kernel
theorem dX8_purse_12 : decode cX8_purse 12 = .ok (.iconst 0, 1) := by decide +kernel
theorem dX8_purse_13 : decode cX8_purse 13 = .ok (.bipush 40, 2) := by decide +kernel
theorem dX8_purse_15 : decode cX8_purse 15 = .ok (.invokestatic 50, 3) := by decide +kernel
theorem dX8_purse_18 : decode cX8_purse 18 = .ok (.goto 4, 3) := by decide +kernel
theorem dX8_purse_21 : decode cX8_purse 21 = .ok (.iconst (-1), 1) := by decide +kernel
theorem dX8_purse_22 : decode cX8_purse 22 = .ok (.istore_n 3, 1) := by decide +kernel
theorem dX8_purse_23 : decode cX8_purse 23 = .ok (.iload_n 3, 1) := by decide +kernel
theorem dX8_purse_24 : decode cX8_purse 24 = .ok (.ifCond .eq 9, 3) := by decide +kernel
theorem dX8_purse_27 : decode cX8_purse 27 = .ok (.aload_n 0, 1) := by decide +kernel
theorem dX8_purse_28 : decode cX8_purse 28 = .ok (.iload_n 3, 1) := by decide +kernel
theorem dX8_purse_29 : decode cX8_purse 29 = .ok (.invokevirtual 58, 3) := by decide +kernel
theorem dX8_purse_32 : decode cX8_purse 32 = .ok (.ireturn, 1) := by decide +kernel
theorem dX8_purse_33 : decode cX8_purse 33 = .ok (.aload_n 0, 1) := by decide +kernel
theorem dX8_purse_34 : decode cX8_purse 34 = .ok (.getfield 16, 3) := by decide +kernel
theorem dX8_purse_37 : decode cX8_purse 37 = .ok (.aload_n 0, 1) := by decide +kernel
theorem dX8_purse_38 : decode cX8_purse 38 = .ok (.getfield 10, 3) := by decide +kernel
theorem dX8_purse_41 : decode cX8_purse 41 = .ok (.invokevirtual 141, 3) := by decide +kernel
theorem dX8_purse_44 : decode cX8_purse 44 = .ok (.aload_n 0, 1) := by decide +kernel
theorem dX8_purse_45 : decode cX8_purse 45 = .ok (.getfield 16, 3) := by decide +kernel
theorem dX8_purse_48 : decode cX8_purse 48 = .ok (.iload_n 2, 1) := by decide +kernel
theorem dX8_purse_49 : decode cX8_purse 49 = .ok (.invokevirtual 145, 3) := by decide +kernel
theorem dX8_purse_52 : decode cX8_purse 52 = .ok (.pop, 1) := by decide +kernel
theorem dX8_purse_53 : decode cX8_purse 53 = .ok (.aload_n 0, 1) := by decide +kernel
theorem dX8_purse_54 : decode cX8_purse 54 = .ok (.getfield 16, 3) := by decide +kernel
theorem dX8_purse_57 : decode cX8_purse 57 = .ok (.iload_n 1, 1) := by decide +kernel
theorem dX8_purse_58 : decode cX8_purse 58 = .ok (.invokevirtual 89, 3) := by decide +kernel
theorem dX8_purse_61 : decode cX8_purse 61 = .ok (.ireturn, 1) := by decide +kernel
theorem dX8_letting_0 : decode cX8_letting 0 = .ok (.aload_n 0, 1) := by decide +kernel
theorem dX8_letting_1 : decode cX8_letting 1 = .ok (.getfield 10, 3) := by decide +kernel
theorem dX8_letting_4 : decode cX8_letting 4 = .ok (.iload_n 1, 1) := by decide +kernel
theorem dX8_letting_5 : decode cX8_letting 5 = .ok (.invokevirtual 76, 3) := by decide +kernel
theorem dX8_letting_8 : decode cX8_letting 8 = .ok (.ifCond .ne 12, 3) := by decide +kernel
theorem dX8_letting_11 : decode cX8_letting 11 = .ok (.ldc 148, 2) := by decide +kernel
theorem dX8_letting_13 : decode cX8_letting 13 = .ok (.aload_n 0, 1) := by decide +kernel
theorem dX8_letting_14 : decode cX8_letting 14 = .ok (.iconst (-1), 1) := by decide +kernel
theorem dX8_letting_15 : decode cX8_letting 15 = .ok (.invokevirtual 58, 3) := by decide +kernel
theorem dX8_letting_18 : decode cX8_letting 18 = .ok (.isub, 1) := by decide +kernel
theorem dX8_letting_19 : decode cX8_letting 19 = .ok (.ireturn, 1) := by decide +kernel
theorem dX8_letting_20 : decode cX8_letting 20 = .ok (.aload_n 0, 1) := by decide +kernel
theorem dX8_letting_21 : decode cX8_letting 21 = .ok (.getfield 16, 3) := by decide +kernel
theorem dX8_letting_24 : decode cX8_letting 24 = .ok (.aload_n 0, 1) := by decide +kernel
theorem dX8_letting_25 : decode cX8_letting 25 = .ok (.getfield 10, 3) := by decide +kernel
theorem dX8_letting_28 : decode cX8_letting 28 = .ok (.invokevirtual 141, 3) := by decide +kernel
theorem dX8_letting_31 : decode cX8_letting 31 = .ok (.aload_n 0, 1) := by decide +kernel
theorem dX8_letting_32 : decode cX8_letting 32 = .ok (.getfield 16, 3) := by decide +kernel
theorem dX8_letting_35 : decode cX8_letting 35 = .ok (.invokevirtual 149, 3) := by decide +kernel
theorem dX8_letting_38 : decode cX8_letting 38 = .ok (.aload_n 0, 1) := by decide +kernel
theorem dX8_letting_39 : decode cX8_letting 39 = .ok (.getfield 16, 3) := by decide +kernel
theorem dX8_letting_42 : decode cX8_letting 42 = .ok (.iload_n 1, 1) := by decide +kernel
theorem dX8_letting_43 : decode cX8_letting 43 = .ok (.invokevirtual 89, 3) := by decide +kernel
theorem dX8_letting_46 : decode cX8_letting 46 = .ok (.aload_n 0, 1) := by decide +kernel
theorem dX8_letting_47 : decode cX8_letting 47 = .ok (.getfield 10, 3) := by decide +kernel
theorem dX8_letting_50 : decode cX8_letting 50 = .ok (.iload_n 1, 1) := by decide +kernel
theorem dX8_letting_51 : decode cX8_letting 51 = .ok (.invokevirtual 89, 3) := by decide +kernel
theorem dX8_letting_54 : decode cX8_letting 54 = .ok (.isub, 1) := by decide +kernel
theorem dX8_letting_55 : decode cX8_letting 55 = .ok (.ireturn, 1) := by decide +kernel
theorem dX8_stays_0 : decode cX8_stays 0 = .ok (.iload_n 1, 1) := by decide +kernel
theorem dX8_stays_1 : decode cX8_stays 1 = .ok (.aload_n 0, 1) := by decide +kernel
theorem dX8_stays_2 : decode cX8_stays 2 = .ok (.getfield 10, 3) := by decide +kernel
theorem dX8_stays_5 : decode cX8_stays 5 = .ok (.invokevirtual 152, 3) := by decide +kernel
theorem dX8_stays_8 : decode cX8_stays 8 = .ok (.iconst (-1), 1) := by decide +kernel
theorem dX8_stays_9 : decode cX8_stays 9 = .ok (.ixor, 1) := by decide +kernel
theorem dX8_stays_10 : decode cX8_stays 10 = .ok (.iand, 1) := by decide +kernel
theorem dX8_stays_11 : decode cX8_stays 11 = .ok (.ifCond .ne 18, 3) := by decide +kernel
theorem dX8_stays_14 : decode cX8_stays 14 = .ok (.aload_n 0, 1) := by decide +kernel
theorem dX8_stays_15 : decode cX8_stays 15 = .ok (.getfield 10, 3) := by decide +kernel
theorem dX8_stays_18 : decode cX8_stays 18 = .ok (.iload_n 2, 1) := by decide +kernel
theorem dX8_stays_19 : decode cX8_stays 19 = .ok (.invokevirtual 76, 3) := by decide +kernel
theorem dX8_stays_22 : decode cX8_stays 22 = .ok (.ifCond .eq 7, 3) := by decide +kernel
theorem dX8_stays_25 : decode cX8_stays 25 = .ok (.iconst 1, 1) := by decide +kernel
theorem dX8_stays_26 : decode cX8_stays 26 = .ok (.goto 4, 3) := by decide +kernel
theorem dX8_stays_29 : decode cX8_stays 29 = .ok (.iconst 0, 1) := by decide +kernel
theorem dX8_stays_30 : decode cX8_stays 30 = .ok (.istore 4, 2) := by decide +kernel
theorem dX8_stays_32 : decode cX8_stays 32 = .ok (.iload 4, 2) := by decide +kernel
theorem dX8_stays_34 : decode cX8_stays 34 = .ok (.ifCond .eq 13, 3) := by decide +kernel
theorem dX8_stays_37 : decode cX8_stays 37 = .ok (.iload_n 3, 1) := by decide +kernel
theorem dX8_stays_38 : decode cX8_stays 38 = .ok (.iconst 0, 1) := by decide +kernel
theorem dX8_stays_39 : decode cX8_stays 39 = .ok (.bipush 40, 2) := by decide +kernel
theorem dX8_stays_41 : decode cX8_stays 41 = .ok (.invokestatic 50, 3) := by decide +kernel
theorem dX8_stays_44 : decode cX8_stays 44 = .ok (.goto 4, 3) := by decide +kernel
theorem dX8_stays_47 : decode cX8_stays 47 = .ok (.iconst (-1), 1) := by decide +kernel
theorem dX8_stays_48 : decode cX8_stays 48 = .ok (.istore 5, 2) := by decide +kernel
theorem dX8_stays_50 : decode cX8_stays 50 = .ok (.iload 5, 2) := by decide +kernel
theorem dX8_stays_52 : decode cX8_stays 52 = .ok (.ifCond .eq 10, 3) := by decide +kernel
theorem dX8_stays_55 : decode cX8_stays 55 = .ok (.aload_n 0, 1) := by decide +kernel
theorem dX8_stays_56 : decode cX8_stays 56 = .ok (.iload 5, 2) := by decide +kernel
theorem dX8_stays_58 : decode cX8_stays 58 = .ok (.invokevirtual 58, 3) := by decide +kernel
theorem dX8_stays_61 : decode cX8_stays 61 = .ok (.ireturn, 1) := by decide +kernel
theorem dX8_stays_62 : decode cX8_stays 62 = .ok (.aload_n 0, 1) := by decide +kernel
theorem dX8_stays_63 : decode cX8_stays 63 = .ok (.iload_n 1, 1) := by decide +kernel
theorem dX8_stays_64 : decode cX8_stays 64 = .ok (.iload_n 2, 1) := by decide +kernel
theorem dX8_stays_65 : decode cX8_stays 65 = .ok (.iload_n 3, 1) := by decide +kernel
theorem dX8_stays_66 : decode cX8_stays 66 = .ok (.invokevirtual 155, 3) := by decide +kernel
theorem dX8_stays_69 : decode cX8_stays 69 = .ok (.aload_n 0, 1) := by decide +kernel
theorem dX8_stays_70 : decode cX8_stays 70 = .ok (.iload_n 1, 1) := by decide +kernel
theorem dX8_stays_71 : decode cX8_stays 71 = .ok (.invokevirtual 159, 3) := by decide +kernel
theorem dX8_stays_74 : decode cX8_stays 74 = .ok (.ireturn, 1) := by decide +kernel
theorem dX8_cheapest_0 : decode cX8_cheapest 0 = .ok (.aload_n 0, 1) := by decide +kernel
theorem dX8_cheapest_1 : decode cX8_cheapest 1 = .ok (.getfield 10, 3) := by decide +kernel
theorem dX8_cheapest_4 : decode cX8_cheapest 4 = .ok (.iload_n 1, 1) := by decide +kernel
theorem dX8_cheapest_5 : decode cX8_cheapest 5 = .ok (.invokevirtual 76, 3) := by decide +kernel
theorem dX8_cheapest_8 : decode cX8_cheapest 8 = .ok (.ifCond .eq 19, 3) := by decide +kernel
theorem dX8_cheapest_11 : decode cX8_cheapest 11 = .ok (.aload_n 0, 1) := by decide +kernel
theorem dX8_cheapest_12 : decode cX8_cheapest 12 = .ok (.getfield 10, 3) := by decide +kernel
theorem dX8_cheapest_15 : decode cX8_cheapest 15 = .ok (.iload_n 2, 1) := by decide +kernel
theorem dX8_cheapest_16 : decode cX8_cheapest 16 = .ok (.invokevirtual 76, 3) := by decide +kernel
theorem dX8_cheapest_19 : decode cX8_cheapest 19 = .ok (.ifCond .eq 8, 3) := by decide +kernel
theorem dX8_cheapest_22 : decode cX8_cheapest 22 = .ok (.iload_n 1, 1) := by decide +kernel
theorem dX8_cheapest_23 : decode cX8_cheapest 23 = .ok (.iload_n 2, 1) := by decide +kernel
theorem dX8_cheapest_24 : decode cX8_cheapest 24 = .ok (.if_icmp .ne 9, 3) := by decide +kernel
theorem dX8_cheapest_27 : decode cX8_cheapest 27 = .ok (.aload_n 0, 1) := by decide +kernel
theorem dX8_cheapest_28 : decode cX8_cheapest 28 = .ok (.iconst (-1), 1) := by decide +kernel
theorem dX8_cheapest_29 : decode cX8_cheapest 29 = .ok (.invokevirtual 58, 3) := by decide +kernel
theorem dX8_cheapest_32 : decode cX8_cheapest 32 = .ok (.ireturn, 1) := by decide +kernel
theorem dX8_cheapest_33 : decode cX8_cheapest 33 = .ok (.iload_n 3, 1) := by decide +kernel
theorem dX8_cheapest_34 : decode cX8_cheapest 34 = .ok (.ifCond .lt 8, 3) := by decide +kernel
theorem dX8_cheapest_37 : decode cX8_cheapest 37 = .ok (.iload 4, 2) := by decide +kernel
theorem dX8_cheapest_39 : decode cX8_cheapest 39 = .ok (.ifCond .ge 10, 3) := by decide +kernel
theorem dX8_cheapest_42 : decode cX8_cheapest 42 = .ok (.aload_n 0, 1) := by decide +kernel
theorem dX8_cheapest_43 : decode cX8_cheapest 43 = .ok (.bipush (-4), 2) := by decide +kernel
theorem dX8_cheapest_45 : decode cX8_cheapest 45 = .ok (.invokevirtual 58, 3) := by decide +kernel
theorem dX8_cheapest_48 : decode cX8_cheapest 48 = .ok (.ireturn, 1) := by decide +kernel
theorem dX8_cheapest_49 : decode cX8_cheapest 49 = .ok (.iload_n 3, 1) := by decide +kernel
theorem dX8_cheapest_50 : decode cX8_cheapest 50 = .ok (.sipush 999, 3) := by decide +kernel
theorem dX8_cheapest_53 : decode cX8_cheapest 53 = .ok (.if_icmp .gt 10, 3) := by decide +kernel
theorem dX8_cheapest_56 : decode cX8_cheapest 56 = .ok (.iload 4, 2) := by decide +kernel
theorem dX8_cheapest_58 : decode cX8_cheapest 58 = .ok (.bipush 40, 2) := by decide +kernel
theorem dX8_cheapest_60 : decode cX8_cheapest 60 = .ok (.if_icmp .le 10, 3) := by decide +kernel
theorem dX8_cheapest_63 : decode cX8_cheapest 63 = .ok (.aload_n 0, 1) := by decide +kernel
theorem dX8_cheapest_64 : decode cX8_cheapest 64 = .ok (.bipush (-6), 2) := by decide +kernel
theorem dX8_cheapest_66 : decode cX8_cheapest 66 = .ok (.invokevirtual 58, 3) := by decide +kernel
theorem dX8_cheapest_69 : decode cX8_cheapest 69 = .ok (.ireturn, 1) := by decide +kernel
theorem dX8_cheapest_70 : decode cX8_cheapest 70 = .ok (.aload_n 0, 1) := by decide +kernel
theorem dX8_cheapest_71 : decode cX8_cheapest 71 = .ok (.getfield 10, 3) := by decide +kernel
theorem dX8_cheapest_74 : decode cX8_cheapest 74 = .ok (.iload_n 1, 1) := by decide +kernel
theorem dX8_cheapest_75 : decode cX8_cheapest 75 = .ok (.invokevirtual 162, 3) := by decide +kernel
theorem dX8_cheapest_78 : decode cX8_cheapest 78 = .ok (.istore 5, 2) := by decide +kernel
theorem dX8_cheapest_80 : decode cX8_cheapest 80 = .ok (.aload_n 0, 1) := by decide +kernel
theorem dX8_cheapest_81 : decode cX8_cheapest 81 = .ok (.iload 5, 2) := by decide +kernel
theorem dX8_cheapest_83 : decode cX8_cheapest 83 = .ok (.iload_n 2, 1) := by decide +kernel
theorem dX8_cheapest_84 : decode cX8_cheapest 84 = .ok (.iload 4, 2) := by decide +kernel
theorem dX8_cheapest_86 : decode cX8_cheapest 86 = .ok (.invokevirtual 155, 3) := by decide +kernel
theorem dX8_cheapest_89 : decode cX8_cheapest 89 = .ok (.aload_n 0, 1) := by decide +kernel
theorem dX8_cheapest_90 : decode cX8_cheapest 90 = .ok (.iload 5, 2) := by decide +kernel
theorem dX8_cheapest_92 : decode cX8_cheapest 92 = .ok (.iload_n 3, 1) := by decide +kernel
theorem dX8_cheapest_93 : decode cX8_cheapest 93 = .ok (.invokevirtual 165, 3) := by decide +kernel
theorem dX8_cheapest_96 : decode cX8_cheapest 96 = .ok (.ireturn, 1) := by decide +kernel
theorem dX8_near_0 : decode cX8_near 0 = .ok (.iload_n 1, 1) := by decide +kernel
theorem dX8_near_1 : decode cX8_near 1 = .ok (.iconst 0, 1) := by decide +kernel
theorem dX8_near_2 : decode cX8_near 2 = .ok (.bipush 18, 2) := by decide +kernel
theorem dX8_near_4 : decode cX8_near 4 = .ok (.invokestatic 50, 3) := by decide +kernel
theorem dX8_near_7 : decode cX8_near 7 = .ok (.istore_n 3, 1) := by decide +kernel
theorem dX8_near_8 : decode cX8_near 8 = .ok (.iload_n 3, 1) := by decide +kernel
theorem dX8_near_9 : decode cX8_near 9 = .ok (.ifCond .ne 15, 3) := by decide +kernel
theorem dX8_near_12 : decode cX8_near 12 = .ok (.iload_n 2, 1) := by decide +kernel
theorem dX8_near_13 : decode cX8_near 13 = .ok (.ifCond .eq 11, 3) := by decide +kernel
theorem dX8_near_16 : decode cX8_near 16 = .ok (.iload_n 2, 1) := by decide +kernel
theorem dX8_near_17 : decode cX8_near 17 = .ok (.iconst 1, 1) := by decide +kernel
theorem dX8_near_18 : decode cX8_near 18 = .ok (.if_icmp .eq 6, 3) := by decide +kernel
theorem dX8_near_21 : decode cX8_near 21 = .ok (.bipush (-2), 2) := by decide +kernel
theorem dX8_near_23 : decode cX8_near 23 = .ok (.istore_n 3, 1) := by decide +kernel
theorem dX8_near_24 : decode cX8_near 24 = .ok (.iload_n 3, 1) := by decide +kernel
theorem dX8_near_25 : decode cX8_near 25 = .ok (.ifCond .eq 9, 3) := by decide +kernel
theorem dX8_near_28 : decode cX8_near 28 = .ok (.aload_n 0, 1) := by decide +kernel
theorem dX8_near_29 : decode cX8_near 29 = .ok (.iload_n 3, 1) := by decide +kernel
theorem dX8_near_30 : decode cX8_near 30 = .ok (.invokevirtual 58, 3) := by decide +kernel
theorem dX8_near_33 : decode cX8_near 33 = .ok (.ireturn, 1) := by decide +kernel
theorem dX8_near_34 : decode cX8_near 34 = .ok (.aload_n 0, 1) := by decide +kernel
theorem dX8_near_35 : decode cX8_near 35 = .ok (.iload_n 1, 1) := by decide +kernel
theorem dX8_near_36 : decode cX8_near 36 = .ok (.invokevirtual 168, 3) := by decide +kernel
theorem dX8_near_39 : decode cX8_near 39 = .ok (.iload_n 2, 1) := by decide +kernel
theorem dX8_near_40 : decode cX8_near 40 = .ok (.ifCond .ne 10, 3) := by decide +kernel
theorem dX8_near_43 : decode cX8_near 43 = .ok (.aload_n 0, 1) := by decide +kernel
theorem dX8_near_44 : decode cX8_near 44 = .ok (.invokevirtual 171, 3) := by decide +kernel
theorem dX8_near_47 : decode cX8_near 47 = .ok (.goto 7, 3) := by decide +kernel
theorem dX8_near_50 : decode cX8_near 50 = .ok (.aload_n 0, 1) := by decide +kernel
theorem dX8_near_51 : decode cX8_near 51 = .ok (.invokevirtual 174, 3) := by decide +kernel
theorem dX8_near_54 : decode cX8_near 54 = .ok (.ireturn, 1) := by decide +kernel
theorem dX8_whose_0 : decode cX8_whose 0 = .ok (.aload_n 0, 1) := by decide +kernel
theorem dX8_whose_1 : decode cX8_whose 1 = .ok (.getfield 10, 3) := by decide +kernel
theorem dX8_whose_4 : decode cX8_whose 4 = .ok (.iload_n 1, 1) := by decide +kernel
theorem dX8_whose_5 : decode cX8_whose 5 = .ok (.invokevirtual 76, 3) := by decide +kernel
theorem dX8_whose_8 : decode cX8_whose 8 = .ok (.ifCond .eq 13, 3) := by decide +kernel
theorem dX8_whose_11 : decode cX8_whose 11 = .ok (.iload_n 2, 1) := by decide +kernel
theorem dX8_whose_12 : decode cX8_whose 12 = .ok (.iconst 0, 1) := by decide +kernel
theorem dX8_whose_13 : decode cX8_whose 13 = .ok (.bipush 18, 2) := by decide +kernel
theorem dX8_whose_15 : decode cX8_whose 15 = .ok (.invokestatic 50, 3) := by decide +kernel
theorem dX8_whose_18 : decode cX8_whose 18 = .ok (.goto 4, 3) := by decide +kernel
theorem dX8_whose_21 : decode cX8_whose 21 = .ok (.iconst (-1), 1) := by decide +kernel
theorem dX8_whose_22 : decode cX8_whose 22 = .ok (.istore_n 3, 1) := by decide +kernel
theorem dX8_whose_23 : decode cX8_whose 23 = .ok (.iload_n 3, 1) := by decide +kernel
theorem dX8_whose_24 : decode cX8_whose 24 = .ok (.ifCond .eq 9, 3) := by decide +kernel
theorem dX8_whose_27 : decode cX8_whose 27 = .ok (.aload_n 0, 1) := by decide +kernel
theorem dX8_whose_28 : decode cX8_whose 28 = .ok (.iload_n 3, 1) := by decide +kernel
theorem dX8_whose_29 : decode cX8_whose 29 = .ok (.invokevirtual 58, 3) := by decide +kernel
theorem dX8_whose_32 : decode cX8_whose 32 = .ok (.ireturn, 1) := by decide +kernel
theorem dX8_whose_33 : decode cX8_whose 33 = .ok (.aload_n 0, 1) := by decide +kernel
theorem dX8_whose_34 : decode cX8_whose 34 = .ok (.iload_n 2, 1) := by decide +kernel
theorem dX8_whose_35 : decode cX8_whose 35 = .ok (.invokevirtual 168, 3) := by decide +kernel
theorem dX8_whose_38 : decode cX8_whose 38 = .ok (.aload_n 0, 1) := by decide +kernel
theorem dX8_whose_39 : decode cX8_whose 39 = .ok (.getfield 33, 3) := by decide +kernel
theorem dX8_whose_42 : decode cX8_whose 42 = .ok (.iload_n 1, 1) := by decide +kernel
theorem dX8_whose_43 : decode cX8_whose 43 = .ok (.iaload, 1) := by decide +kernel
theorem dX8_whose_44 : decode cX8_whose 44 = .ok (.ireturn, 1) := by decide +kernel
theorem dX8_run_0 : decode cX8_run 0 = .ok (.aload_n 0, 1) := by decide +kernel
theorem dX8_run_1 : decode cX8_run 1 = .ok (.getfield 10, 3) := by decide +kernel
theorem dX8_run_4 : decode cX8_run 4 = .ok (.iload_n 1, 1) := by decide +kernel
theorem dX8_run_5 : decode cX8_run 5 = .ok (.invokevirtual 76, 3) := by decide +kernel
theorem dX8_run_8 : decode cX8_run 8 = .ok (.ifCond .eq 14, 3) := by decide +kernel
theorem dX8_run_11 : decode cX8_run 11 = .ok (.iload_n 2, 1) := by decide +kernel
theorem dX8_run_12 : decode cX8_run 12 = .ok (.iconst 0, 1) := by decide +kernel
theorem dX8_run_13 : decode cX8_run 13 = .ok (.sipush 999, 3) := by decide +kernel
theorem dX8_run_16 : decode cX8_run 16 = .ok (.invokestatic 50, 3) := by decide +kernel
theorem dX8_run_19 : decode cX8_run 19 = .ok (.goto 4, 3) := by decide +kernel
theorem dX8_run_22 : decode cX8_run 22 = .ok (.iconst (-1), 1) := by decide +kernel
theorem dX8_run_23 : decode cX8_run 23 = .ok (.istore_n 3, 1) := by decide +kernel
theorem dX8_run_24 : decode cX8_run 24 = .ok (.iload_n 3, 1) := by decide +kernel
theorem dX8_run_25 : decode cX8_run 25 = .ok (.ifCond .eq 9, 3) := by decide +kernel
theorem dX8_run_28 : decode cX8_run 28 = .ok (.aload_n 0, 1) := by decide +kernel
theorem dX8_run_29 : decode cX8_run 29 = .ok (.iload_n 3, 1) := by decide +kernel
theorem dX8_run_30 : decode cX8_run 30 = .ok (.invokevirtual 58, 3) := by decide +kernel
theorem dX8_run_33 : decode cX8_run 33 = .ok (.ireturn, 1) := by decide +kernel
theorem dX8_run_34 : decode cX8_run 34 = .ok (.aload_n 0, 1) := by decide +kernel
theorem dX8_run_35 : decode cX8_run 35 = .ok (.getfield 16, 3) := by decide +kernel
theorem dX8_run_38 : decode cX8_run 38 = .ok (.aload_n 0, 1) := by decide +kernel
theorem dX8_run_39 : decode cX8_run 39 = .ok (.getfield 10, 3) := by decide +kernel
theorem dX8_run_42 : decode cX8_run 42 = .ok (.invokevirtual 141, 3) := by decide +kernel
theorem dX8_run_45 : decode cX8_run 45 = .ok (.iconst 0, 1) := by decide +kernel
theorem dX8_run_46 : decode cX8_run 46 = .ok (.istore 4, 2) := by decide +kernel
theorem dX8_run_48 : decode cX8_run 48 = .ok (.iload 4, 2) := by decide +kernel
theorem dX8_run_50 : decode cX8_run 50 = .ok (.bipush 40, 2) := by decide +kernel
theorem dX8_run_52 : decode cX8_run 52 = .ok (.if_icmp .gt 32, 3) := by decide +kernel
theorem dX8_run_55 : decode cX8_run 55 = .ok (.aload_n 0, 1) := by decide +kernel
theorem dX8_run_56 : decode cX8_run 56 = .ok (.getfield 16, 3) := by decide +kernel
theorem dX8_run_59 : decode cX8_run 59 = .ok (.iload_n 1, 1) := by decide +kernel
theorem dX8_run_60 : decode cX8_run 60 = .ok (.invokevirtual 89, 3) := by decide +kernel
theorem dX8_run_63 : decode cX8_run 63 = .ok (.iload_n 2, 1) := by decide +kernel
theorem dX8_run_64 : decode cX8_run 64 = .ok (.if_icmp .ge 6, 3) := by decide +kernel
theorem dX8_run_67 : decode cX8_run 67 = .ok (.iload 4, 2) := by decide +kernel
theorem dX8_run_69 : decode cX8_run 69 = .ok (.ireturn, 1) := by decide +kernel
theorem dX8_run_70 : decode cX8_run 70 = .ok (.aload_n 0, 1) := by decide +kernel
theorem dX8_run_71 : decode cX8_run 71 = .ok (.getfield 16, 3) := by decide +kernel
theorem dX8_run_74 : decode cX8_run 74 = .ok (.invokevirtual 134, 3) := by decide +kernel
theorem dX8_run_77 : decode cX8_run 77 = .ok (.pop, 1) := by decide +kernel
theorem dX8_run_78 : decode cX8_run 78 = .ok (.iinc 4 1, 3) := by decide +kernel
theorem dX8_run_81 : decode cX8_run 81 = .ok (.goto (-33), 3) := by decide +kernel
theorem dX8_run_84 : decode cX8_run 84 = .ok (.bipush (-9), 2) := by decide +kernel
theorem dX8_run_86 : decode cX8_run 86 = .ok (.ireturn, 1) := by decide +kernel
theorem dX8_bestOpen_0 : decode cX8_bestOpen 0 = .ok (.aload_n 0, 1) := by decide +kernel
theorem dX8_bestOpen_1 : decode cX8_bestOpen 1 = .ok (.getfield 10, 3) := by decide +kernel
theorem dX8_bestOpen_4 : decode cX8_bestOpen 4 = .ok (.iload_n 1, 1) := by decide +kernel
theorem dX8_bestOpen_5 : decode cX8_bestOpen 5 = .ok (.invokevirtual 76, 3) := by decide +kernel
theorem dX8_bestOpen_8 : decode cX8_bestOpen 8 = .ok (.ifCond .eq 13, 3) := by decide +kernel
theorem dX8_bestOpen_11 : decode cX8_bestOpen 11 = .ok (.iload_n 2, 1) := by decide +kernel
theorem dX8_bestOpen_12 : decode cX8_bestOpen 12 = .ok (.iconst 0, 1) := by decide +kernel
theorem dX8_bestOpen_13 : decode cX8_bestOpen 13 = .ok (.bipush 40, 2) := by decide +kernel
theorem dX8_bestOpen_15 : decode cX8_bestOpen 15 = .ok (.invokestatic 50, 3) := by decide +kernel
theorem dX8_bestOpen_18 : decode cX8_bestOpen 18 = .ok (.goto 4, 3) := by decide +kernel
theorem dX8_bestOpen_21 : decode cX8_bestOpen 21 = .ok (.iconst (-1), 1) := by decide +kernel
theorem dX8_bestOpen_22 : decode cX8_bestOpen 22 = .ok (.istore_n 3, 1) := by decide +kernel
theorem dX8_bestOpen_23 : decode cX8_bestOpen 23 = .ok (.iload_n 3, 1) := by decide +kernel
theorem dX8_bestOpen_24 : decode cX8_bestOpen 24 = .ok (.ifCond .eq 9, 3) := by decide +kernel
theorem dX8_bestOpen_27 : decode cX8_bestOpen 27 = .ok (.aload_n 0, 1) := by decide +kernel
theorem dX8_bestOpen_28 : decode cX8_bestOpen 28 = .ok (.iload_n 3, 1) := by decide +kernel
theorem dX8_bestOpen_29 : decode cX8_bestOpen 29 = .ok (.invokevirtual 58, 3) := by decide +kernel
theorem dX8_bestOpen_32 : decode cX8_bestOpen 32 = .ok (.ireturn, 1) := by decide +kernel
theorem dX8_bestOpen_33 : decode cX8_bestOpen 33 = .ok (.iconst 0, 1) := by decide +kernel
theorem dX8_bestOpen_34 : decode cX8_bestOpen 34 = .ok (.istore 4, 2) := by decide +kernel
theorem dX8_bestOpen_36 : decode cX8_bestOpen 36 = .ok (.iconst (-1), 1) := by decide +kernel
theorem dX8_bestOpen_37 : decode cX8_bestOpen 37 = .ok (.istore 5, 2) := by decide +kernel
theorem dX8_bestOpen_39 : decode cX8_bestOpen 39 = .ok (.iconst 0, 1) := by decide +kernel
theorem dX8_bestOpen_40 : decode cX8_bestOpen 40 = .ok (.istore 6, 2) := by decide +kernel
theorem dX8_bestOpen_42 : decode cX8_bestOpen 42 = .ok (.iload 6, 2) := by decide +kernel
theorem dX8_bestOpen_44 : decode cX8_bestOpen 44 = .ok (.iconst 1, 1) := by decide +kernel
theorem dX8_bestOpen_45 : decode cX8_bestOpen 45 = .ok (.aload_n 0, 1) := by decide +kernel
theorem dX8_bestOpen_46 : decode cX8_bestOpen 46 = .ok (.getfield 10, 3) := by decide +kernel
theorem dX8_bestOpen_49 : decode cX8_bestOpen 49 = .ok (.getfield 177, 3) := by decide +kernel
theorem dX8_bestOpen_52 : decode cX8_bestOpen 52 = .ok (.ishl, 1) := by decide +kernel
theorem dX8_bestOpen_53 : decode cX8_bestOpen 53 = .ok (.if_icmp .ge 63, 3) := by decide +kernel
theorem dX8_bestOpen_56 : decode cX8_bestOpen 56 = .ok (.aload_n 0, 1) := by decide +kernel
theorem dX8_bestOpen_57 : decode cX8_bestOpen 57 = .ok (.getfield 16, 3) := by decide +kernel
theorem dX8_bestOpen_60 : decode cX8_bestOpen 60 = .ok (.aload_n 0, 1) := by decide +kernel
theorem dX8_bestOpen_61 : decode cX8_bestOpen 61 = .ok (.getfield 10, 3) := by decide +kernel
theorem dX8_bestOpen_64 : decode cX8_bestOpen 64 = .ok (.invokevirtual 141, 3) := by decide +kernel
theorem dX8_bestOpen_67 : decode cX8_bestOpen 67 = .ok (.aload_n 0, 1) := by decide +kernel
theorem dX8_bestOpen_68 : decode cX8_bestOpen 68 = .ok (.getfield 16, 3) := by decide +kernel
theorem dX8_bestOpen_71 : decode cX8_bestOpen 71 = .ok (.iload 6, 2) := by decide +kernel
theorem dX8_bestOpen_73 : decode cX8_bestOpen 73 = .ok (.putfield 180, 3) := by decide +kernel
theorem dX8_bestOpen_76 : decode cX8_bestOpen 76 = .ok (.aload_n 0, 1) := by decide +kernel
theorem dX8_bestOpen_77 : decode cX8_bestOpen 77 = .ok (.getfield 16, 3) := by decide +kernel
theorem dX8_bestOpen_80 : decode cX8_bestOpen 80 = .ok (.iload_n 2, 1) := by decide +kernel
theorem dX8_bestOpen_81 : decode cX8_bestOpen 81 = .ok (.invokevirtual 145, 3) := by decide +kernel
theorem dX8_bestOpen_84 : decode cX8_bestOpen 84 = .ok (.pop, 1) := by decide +kernel
theorem dX8_bestOpen_85 : decode cX8_bestOpen 85 = .ok (.aload_n 0, 1) := by decide +kernel
theorem dX8_bestOpen_86 : decode cX8_bestOpen 86 = .ok (.getfield 16, 3) := by decide +kernel
theorem dX8_bestOpen_89 : decode cX8_bestOpen 89 = .ok (.iload_n 1, 1) := by decide +kernel
theorem dX8_bestOpen_90 : decode cX8_bestOpen 90 = .ok (.invokevirtual 89, 3) := by decide +kernel
theorem dX8_bestOpen_93 : decode cX8_bestOpen 93 = .ok (.istore 7, 2) := by decide +kernel
theorem dX8_bestOpen_95 : decode cX8_bestOpen 95 = .ok (.iload 7, 2) := by decide +kernel
theorem dX8_bestOpen_97 : decode cX8_bestOpen 97 = .ok (.iload 5, 2) := by decide +kernel
theorem dX8_bestOpen_99 : decode cX8_bestOpen 99 = .ok (.if_icmp .le 11, 3) := by decide +kernel
theorem dX8_bestOpen_102 : decode cX8_bestOpen 102 = .ok (.iload 7, 2) := by decide +kernel
theorem dX8_bestOpen_104 : decode cX8_bestOpen 104 = .ok (.istore 5, 2) := by decide +kernel
theorem dX8_bestOpen_106 : decode cX8_bestOpen 106 = .ok (.iload 6, 2) := by decide +kernel
theorem dX8_bestOpen_108 : decode cX8_bestOpen 108 = .ok (.istore 4, 2) := by decide +kernel
theorem dX8_bestOpen_110 : decode cX8_bestOpen 110 = .ok (.iinc 6 1, 3) := by decide +kernel
theorem dX8_bestOpen_113 : decode cX8_bestOpen 113 = .ok (.goto (-71), 3) := by decide +kernel
theorem dX8_bestOpen_116 : decode cX8_bestOpen 116 = .ok (.iload 4, 2) := by decide +kernel
theorem dX8_bestOpen_118 : decode cX8_bestOpen 118 = .ok (.ireturn, 1) := by decide +kernel
theorem dX8_homing_0 : decode cX8_homing 0 = .ok (.aload_n 0, 1) := by decide +kernel
theorem dX8_homing_1 : decode cX8_homing 1 = .ok (.getfield 10, 3) := by decide +kernel
theorem dX8_homing_4 : decode cX8_homing 4 = .ok (.iload_n 1, 1) := by decide +kernel
theorem dX8_homing_5 : decode cX8_homing 5 = .ok (.invokevirtual 95, 3) := by decide +kernel
theorem dX8_homing_8 : decode cX8_homing 8 = .ok (.ifCond .ne 9, 3) := by decide +kernel
theorem dX8_homing_11 : decode cX8_homing 11 = .ok (.aload_n 0, 1) := by decide +kernel
theorem dX8_homing_12 : decode cX8_homing 12 = .ok (.iconst (-1), 1) := by decide +kernel
theorem dX8_homing_13 : decode cX8_homing 13 = .ok (.invokevirtual 58, 3) := by decide +kernel
theorem dX8_homing_16 : decode cX8_homing 16 = .ok (.ireturn, 1) := by decide +kernel
theorem dX8_homing_17 : decode cX8_homing 17 = .ok (.aload_n 0, 1) := by decide +kernel
theorem dX8_homing_18 : decode cX8_homing 18 = .ok (.getfield 16, 3) := by decide +kernel
theorem dX8_homing_21 : decode cX8_homing 21 = .ok (.aload_n 0, 1) := by decide +kernel
theorem dX8_homing_22 : decode cX8_homing 22 = .ok (.getfield 10, 3) := by decide +kernel
theorem dX8_homing_25 : decode cX8_homing 25 = .ok (.invokevirtual 141, 3) := by decide +kernel
theorem dX8_homing_28 : decode cX8_homing 28 = .ok (.iconst 0, 1) := by decide +kernel
theorem dX8_homing_29 : decode cX8_homing 29 = .ok (.istore_n 2, 1) := by decide +kernel
theorem dX8_homing_30 : decode cX8_homing 30 = .ok (.iload_n 2, 1) := by decide +kernel
theorem dX8_homing_31 : decode cX8_homing 31 = .ok (.bipush 40, 2) := by decide +kernel
theorem dX8_homing_33 : decode cX8_homing 33 = .ok (.if_icmp .gt 30, 3) := by decide +kernel
theorem dX8_homing_36 : decode cX8_homing 36 = .ok (.aload_n 0, 1) := by decide +kernel
theorem dX8_homing_37 : decode cX8_homing 37 = .ok (.getfield 16, 3) := by decide +kernel
theorem dX8_homing_40 : decode cX8_homing 40 = .ok (.iload_n 1, 1) := by decide +kernel
theorem dX8_homing_41 : decode cX8_homing 41 = .ok (.invokevirtual 183, 3) := by decide +kernel
theorem dX8_homing_44 : decode cX8_homing 44 = .ok (.ifCond .eq 5, 3) := by decide +kernel
theorem dX8_homing_47 : decode cX8_homing 47 = .ok (.iload_n 2, 1) := by decide +kernel
theorem dX8_homing_48 : decode cX8_homing 48 = .ok (.ireturn, 1) := by decide +kernel
theorem dX8_homing_49 : decode cX8_homing 49 = .ok (.aload_n 0, 1) := by decide +kernel
theorem dX8_homing_50 : decode cX8_homing 50 = .ok (.getfield 16, 3) := by decide +kernel
theorem dX8_homing_53 : decode cX8_homing 53 = .ok (.invokevirtual 134, 3) := by decide +kernel
theorem dX8_homing_56 : decode cX8_homing 56 = .ok (.pop, 1) := by decide +kernel
theorem dX8_homing_57 : decode cX8_homing 57 = .ok (.iinc 2 1, 3) := by decide +kernel
theorem dX8_homing_60 : decode cX8_homing 60 = .ok (.goto (-30), 3) := by decide +kernel
theorem dX8_homing_63 : decode cX8_homing 63 = .ok (.bipush (-9), 2) := by decide +kernel
theorem dX8_homing_65 : decode cX8_homing 65 = .ok (.ireturn, 1) := by decide +kernel
theorem dX8_spare_0 : decode cX8_spare 0 = .ok (.iload_n 1, 1) := by decide +kernel
theorem dX8_spare_1 : decode cX8_spare 1 = .ok (.iconst 0, 1) := by decide +kernel
theorem dX8_spare_2 : decode cX8_spare 2 = .ok (.bipush 40, 2) := by decide +kernel
theorem dX8_spare_4 : decode cX8_spare 4 = .ok (.invokestatic 50, 3) := by decide +kernel
theorem dX8_spare_7 : decode cX8_spare 7 = .ok (.istore_n 2, 1) := by decide +kernel
theorem dX8_spare_8 : decode cX8_spare 8 = .ok (.iload_n 2, 1) := by decide +kernel
theorem dX8_spare_9 : decode cX8_spare 9 = .ok (.ifCond .eq 9, 3) := by decide +kernel
theorem dX8_spare_12 : decode cX8_spare 12 = .ok (.aload_n 0, 1) := by decide +kernel
theorem dX8_spare_13 : decode cX8_spare 13 = .ok (.iload_n 2, 1) := by decide +kernel
theorem dX8_spare_14 : decode cX8_spare 14 = .ok (.invokevirtual 58, 3) := by decide +kernel
theorem dX8_spare_17 : decode cX8_spare 17 = .ok (.ireturn, 1) := by decide +kernel
theorem dX8_spare_18 : decode cX8_spare 18 = .ok (.iconst 0, 1) := by decide +kernel
theorem dX8_spare_19 : decode cX8_spare 19 = .ok (.istore_n 3, 1) := by decide +kernel
theorem dX8_spare_20 : decode cX8_spare 20 = .ok (.iload_n 3, 1) := by decide +kernel
theorem dX8_spare_21 : decode cX8_spare 21 = .ok (.bipush 20, 2) := by decide +kernel
theorem dX8_spare_23 : decode cX8_spare 23 = .ok (.if_icmp .gt 41, 3) := by decide +kernel
theorem dX8_spare_26 : decode cX8_spare 26 = .ok (.aload_n 0, 1) := by decide +kernel
theorem dX8_spare_27 : decode cX8_spare 27 = .ok (.getfield 16, 3) := by decide +kernel
theorem dX8_spare_30 : decode cX8_spare 30 = .ok (.aload_n 0, 1) := by decide +kernel
theorem dX8_spare_31 : decode cX8_spare 31 = .ok (.getfield 10, 3) := by decide +kernel
theorem dX8_spare_34 : decode cX8_spare 34 = .ok (.invokevirtual 141, 3) := by decide +kernel
theorem dX8_spare_37 : decode cX8_spare 37 = .ok (.aload_n 0, 1) := by decide +kernel
theorem dX8_spare_38 : decode cX8_spare 38 = .ok (.getfield 16, 3) := by decide +kernel
theorem dX8_spare_41 : decode cX8_spare 41 = .ok (.iload_n 3, 1) := by decide +kernel
theorem dX8_spare_42 : decode cX8_spare 42 = .ok (.putfield 122, 3) := by decide +kernel
theorem dX8_spare_45 : decode cX8_spare 45 = .ok (.aload_n 0, 1) := by decide +kernel
theorem dX8_spare_46 : decode cX8_spare 46 = .ok (.getfield 16, 3) := by decide +kernel
theorem dX8_spare_49 : decode cX8_spare 49 = .ok (.iload_n 1, 1) := by decide +kernel
theorem dX8_spare_50 : decode cX8_spare 50 = .ok (.invokevirtual 145, 3) := by decide +kernel
theorem dX8_spare_53 : decode cX8_spare 53 = .ok (.ifCond .ne 5, 3) := by decide +kernel
theorem dX8_spare_56 : decode cX8_spare 56 = .ok (.iload_n 3, 1) := by decide +kernel
theorem dX8_spare_57 : decode cX8_spare 57 = .ok (.ireturn, 1) := by decide +kernel
theorem dX8_spare_58 : decode cX8_spare 58 = .ok (.iinc 3 1, 3) := by decide +kernel
theorem dX8_spare_61 : decode cX8_spare 61 = .ok (.goto (-41), 3) := by decide +kernel
theorem dX8_spare_64 : decode cX8_spare 64 = .ok (.bipush (-9), 2) := by decide +kernel
theorem dX8_spare_66 : decode cX8_spare 66 = .ok (.ireturn, 1) := by decide +kernel
theorem dX8_row_0 : decode cX8_row 0 = .ok (.iload_n 1, 1) := by decide +kernel
theorem dX8_row_1 : decode cX8_row 1 = .ok (.iconst 0, 1) := by decide +kernel
theorem dX8_row_2 : decode cX8_row 2 = .ok (.bipush 9, 2) := by decide +kernel
theorem dX8_row_4 : decode cX8_row 4 = .ok (.invokestatic 50, 3) := by decide +kernel
theorem dX8_row_7 : decode cX8_row 7 = .ok (.istore_n 2, 1) := by decide +kernel
theorem dX8_row_8 : decode cX8_row 8 = .ok (.iload_n 2, 1) := by decide +kernel
theorem dX8_row_9 : decode cX8_row 9 = .ok (.ifCond .ne 15, 3) := by decide +kernel
theorem dX8_row_12 : decode cX8_row 12 = .ok (.aload_n 0, 1) := by decide +kernel
theorem dX8_row_13 : decode cX8_row 13 = .ok (.getfield 42, 3) := by decide +kernel
theorem dX8_row_16 : decode cX8_row 16 = .ok (.bipush 8, 2) := by decide +kernel
theorem dX8_row_18 : decode cX8_row 18 = .ok (.if_icmp .lt 6, 3) := by decide +kernel
theorem dX8_row_21 : decode cX8_row 21 = .ok (.bipush (-6), 2) := by decide +kernel
theorem dX8_row_23 : decode cX8_row 23 = .ok (.istore_n 2, 1) := by decide +kernel
theorem dX8_row_24 : decode cX8_row 24 = .ok (.iload_n 2, 1) := by decide +kernel
theorem dX8_row_25 : decode cX8_row 25 = .ok (.ifCond .eq 9, 3) := by decide +kernel
theorem dX8_row_28 : decode cX8_row 28 = .ok (.aload_n 0, 1) := by decide +kernel
theorem dX8_row_29 : decode cX8_row 29 = .ok (.iload_n 2, 1) := by decide +kernel
theorem dX8_row_30 : decode cX8_row 30 = .ok (.invokevirtual 58, 3) := by decide +kernel
theorem dX8_row_33 : decode cX8_row 33 = .ok (.ireturn, 1) := by decide +kernel
theorem dX8_row_34 : decode cX8_row 34 = .ok (.aload_n 0, 1) := by decide +kernel
theorem dX8_row_35 : decode cX8_row 35 = .ok (.getfield 29, 3) := by decide +kernel
theorem dX8_row_38 : decode cX8_row 38 = .ok (.aload_n 0, 1) := by decide +kernel
theorem dX8_row_39 : decode cX8_row 39 = .ok (.getfield 42, 3) := by decide +kernel
theorem dX8_row_42 : decode cX8_row 42 = .ok (.iload_n 1, 1) := by decide +kernel
theorem dX8_row_43 : decode cX8_row 43 = .ok (.iastore, 1) := by decide +kernel
theorem dX8_row_44 : decode cX8_row 44 = .ok (.aload_n 0, 1) := by decide +kernel
theorem dX8_row_45 : decode cX8_row 45 = .ok (.dup, 1) := by decide +kernel
theorem dX8_row_46 : decode cX8_row 46 = .ok (.getfield 42, 3) := by decide +kernel
theorem dX8_row_49 : decode cX8_row 49 = .ok (.iconst 1, 1) := by decide +kernel
theorem dX8_row_50 : decode cX8_row 50 = .ok (.iadd, 1) := by decide +kernel
theorem dX8_row_51 : decode cX8_row 51 = .ok (.putfield 42, 3) := by decide +kernel
theorem dX8_row_54 : decode cX8_row 54 = .ok (.aload_n 0, 1) := by decide +kernel
theorem dX8_row_55 : decode cX8_row 55 = .ok (.getfield 42, 3) := by decide +kernel
theorem dX8_row_58 : decode cX8_row 58 = .ok (.ireturn, 1) := by decide +kernel
theorem dX8_paid_0 : decode cX8_paid 0 = .ok (.iload_n 1, 1) := by decide +kernel
theorem dX8_paid_1 : decode cX8_paid 1 = .ok (.ifCond .eq 15, 3) := by decide +kernel
theorem dX8_paid_4 : decode cX8_paid 4 = .ok (.iload_n 1, 1) := by decide +kernel
theorem dX8_paid_5 : decode cX8_paid 5 = .ok (.iconst 1, 1) := by decide +kernel
theorem dX8_paid_6 : decode cX8_paid 6 = .ok (.if_icmp .eq 10, 3) := by decide +kernel
theorem dX8_paid_9 : decode cX8_paid 9 = .ok (.aload_n 0, 1) := by decide +kernel
theorem dX8_paid_10 : decode cX8_paid 10 = .ok (.bipush (-2), 2) := by decide +kernel
theorem dX8_paid_12 : decode cX8_paid 12 = .ok (.invokevirtual 58, 3) := by decide +kernel
theorem dX8_paid_15 : decode cX8_paid 15 = .ok (.ireturn, 1) := by decide +kernel
theorem dX8_paid_16 : decode cX8_paid 16 = .ok (.aload_n 0, 1) := by decide +kernel
theorem dX8_paid_17 : decode cX8_paid 17 = .ok (.getfield 42, 3) := by decide +kernel
theorem dX8_paid_20 : decode cX8_paid 20 = .ok (.aload_n 0, 1) := by decide +kernel
theorem dX8_paid_21 : decode cX8_paid 21 = .ok (.getfield 10, 3) := by decide +kernel
theorem dX8_paid_24 : decode cX8_paid 24 = .ok (.getfield 186, 3) := by decide +kernel
theorem dX8_paid_27 : decode cX8_paid 27 = .ok (.if_icmp .eq 10, 3) := by decide +kernel
theorem dX8_paid_30 : decode cX8_paid 30 = .ok (.aload_n 0, 1) := by decide +kernel
theorem dX8_paid_31 : decode cX8_paid 31 = .ok (.bipush (-3), 2) := by decide +kernel
theorem dX8_paid_33 : decode cX8_paid 33 = .ok (.invokevirtual 58, 3) := by decide +kernel
theorem dX8_paid_36 : decode cX8_paid 36 = .ok (.ireturn, 1) := by decide +kernel
theorem dX8_paid_37 : decode cX8_paid 37 = .ok (.iconst 0, 1) := by decide +kernel
theorem dX8_paid_38 : decode cX8_paid 38 = .ok (.istore_n 2, 1) := by decide +kernel
theorem dX8_paid_39 : decode cX8_paid 39 = .ok (.bipush (-9), 2) := by decide +kernel
theorem dX8_paid_41 : decode cX8_paid 41 = .ok (.istore_n 3, 1) := by decide +kernel
theorem dX8_paid_42 : decode cX8_paid 42 = .ok (.iconst 0, 1) := by decide +kernel
theorem dX8_paid_43 : decode cX8_paid 43 = .ok (.istore 4, 2) := by decide +kernel
theorem dX8_paid_45 : decode cX8_paid 45 = .ok (.iload 4, 2) := by decide +kernel
theorem dX8_paid_47 : decode cX8_paid 47 = .ok (.aload_n 0, 1) := by decide +kernel
theorem dX8_paid_48 : decode cX8_paid 48 = .ok (.getfield 10, 3) := by decide +kernel
theorem dX8_paid_51 : decode cX8_paid 51 = .ok (.getfield 186, 3) := by decide +kernel
theorem dX8_paid_54 : decode cX8_paid 54 = .ok (.if_icmp .ge 61, 3) := by decide +kernel
theorem dX8_paid_57 : decode cX8_paid 57 = .ok (.iconst 0, 1) := by decide +kernel
theorem dX8_paid_58 : decode cX8_paid 58 = .ok (.istore 5, 2) := by decide +kernel
theorem dX8_paid_60 : decode cX8_paid 60 = .ok (.iload 5, 2) := by decide +kernel
theorem dX8_paid_62 : decode cX8_paid 62 = .ok (.aload_n 0, 1) := by decide +kernel
theorem dX8_paid_63 : decode cX8_paid 63 = .ok (.getfield 10, 3) := by decide +kernel
theorem dX8_paid_66 : decode cX8_paid 66 = .ok (.getfield 177, 3) := by decide +kernel
theorem dX8_paid_69 : decode cX8_paid 69 = .ok (.if_icmp .ge 40, 3) := by decide +kernel
theorem dX8_paid_72 : decode cX8_paid 72 = .ok (.aload_n 0, 1) := by decide +kernel
theorem dX8_paid_73 : decode cX8_paid 73 = .ok (.iload 4, 2) := by decide +kernel
theorem dX8_paid_75 : decode cX8_paid 75 = .ok (.iload 5, 2) := by decide +kernel
theorem dX8_paid_77 : decode cX8_paid 77 = .ok (.invokevirtual 189, 3) := by decide +kernel
theorem dX8_paid_80 : decode cX8_paid 80 = .ok (.ifCond .eq 23, 3) := by decide +kernel
theorem dX8_paid_83 : decode cX8_paid 83 = .ok (.iload_n 2, 1) := by decide +kernel
theorem dX8_paid_84 : decode cX8_paid 84 = .ok (.ifCond .ne 14, 3) := by decide +kernel
theorem dX8_paid_87 : decode cX8_paid 87 = .ok (.bipush 10, 2) := by decide +kernel
theorem dX8_paid_89 : decode cX8_paid 89 = .ok (.iload 4, 2) := by decide +kernel
theorem dX8_paid_91 : decode cX8_paid 91 = .ok (.imul, 1) := by decide +kernel
theorem dX8_paid_92 : decode cX8_paid 92 = .ok (.iload 5, 2) := by decide +kernel
theorem dX8_paid_94 : decode cX8_paid 94 = .ok (.iadd, 1) := by decide +kernel
theorem dX8_paid_95 : decode cX8_paid 95 = .ok (.goto 4, 3) := by decide +kernel
theorem dX8_paid_98 : decode cX8_paid 98 = .ok (.iload_n 3, 1) := by decide +kernel
theorem dX8_paid_99 : decode cX8_paid 99 = .ok (.istore_n 3, 1) := by decide +kernel
theorem dX8_paid_100 : decode cX8_paid 100 = .ok (.iinc 2 1, 3) := by decide +kernel
theorem dX8_paid_103 : decode cX8_paid 103 = .ok (.iinc 5 1, 3) := by decide +kernel
theorem dX8_paid_106 : decode cX8_paid 106 = .ok (.goto (-46), 3) := by decide +kernel
theorem dX8_paid_109 : decode cX8_paid 109 = .ok (.iinc 4 1, 3) := by decide +kernel
theorem dX8_paid_112 : decode cX8_paid 112 = .ok (.goto (-67), 3) := by decide +kernel
theorem dX8_paid_115 : decode cX8_paid 115 = .ok (.iload_n 1, 1) := by decide +kernel
theorem dX8_paid_116 : decode cX8_paid 116 = .ok (.ifCond .ne 7, 3) := by decide +kernel
theorem dX8_paid_119 : decode cX8_paid 119 = .ok (.iload_n 2, 1) := by decide +kernel
theorem dX8_paid_120 : decode cX8_paid 120 = .ok (.goto 4, 3) := by decide +kernel
theorem dX8_paid_123 : decode cX8_paid 123 = .ok (.iload_n 3, 1) := by decide +kernel
theorem dX8_paid_124 : decode cX8_paid 124 = .ok (.ireturn, 1) := by decide +kernel
theorem dX8_judge_0 : decode cX8_judge 0 = .ok (.aload_n 0, 1) := by decide +kernel
theorem dX8_judge_1 : decode cX8_judge 1 = .ok (.aload_n 0, 1) := by decide +kernel
theorem dX8_judge_2 : decode cX8_judge 2 = .ok (.getfield 10, 3) := by decide +kernel
theorem dX8_judge_5 : decode cX8_judge 5 = .ok (.aload_n 0, 1) := by decide +kernel
theorem dX8_judge_6 : decode cX8_judge 6 = .ok (.getfield 42, 3) := by decide +kernel
theorem dX8_judge_9 : decode cX8_judge 9 = .ok (.aload_n 0, 1) := by decide +kernel
theorem dX8_judge_10 : decode cX8_judge 10 = .ok (.getfield 10, 3) := by decide +kernel
theorem dX8_judge_13 : decode cX8_judge 13 = .ok (.getfield 186, 3) := by decide +kernel
theorem dX8_judge_16 : decode cX8_judge 16 = .ok (.invokestatic 193, 3) := by decide +kernel
theorem dX8_judge_19 : decode cX8_judge 19 = .ok (.invokevirtual 198, 3) := by decide +kernel
theorem dX8_judge_22 : decode cX8_judge 22 = .ok (.istore_n 1, 1) := by decide +kernel
theorem dX8_judge_23 : decode cX8_judge 23 = .ok (.iload_n 1, 1) := by decide +kernel
theorem dX8_judge_24 : decode cX8_judge 24 = .ok (.aload_n 0, 1) := by decide +kernel
theorem dX8_judge_25 : decode cX8_judge 25 = .ok (.getfield 42, 3) := by decide +kernel
theorem dX8_judge_28 : decode cX8_judge 28 = .ok (.if_icmp .ne 19, 3) := by decide +kernel
theorem dX8_judge_31 : decode cX8_judge 31 = .ok (.iload_n 1, 1) := by decide +kernel
theorem dX8_judge_32 : decode cX8_judge 32 = .ok (.aload_n 0, 1) := by decide +kernel
theorem dX8_judge_33 : decode cX8_judge 33 = .ok (.getfield 10, 3) := by decide +kernel
theorem dX8_judge_36 : decode cX8_judge 36 = .ok (.getfield 186, 3) := by decide +kernel
theorem dX8_judge_39 : decode cX8_judge 39 = .ok (.if_icmp .ne 8, 3) := by decide +kernel
theorem dX8_judge_42 : decode cX8_judge 42 = .ok (.bipush (-9), 2) := by decide +kernel
theorem dX8_judge_44 : decode cX8_judge 44 = .ok (.goto 4, 3) := by decide +kernel
theorem dX8_judge_47 : decode cX8_judge 47 = .ok (.iload_n 1, 1) := by decide +kernel
theorem dX8_judge_48 : decode cX8_judge 48 = .ok (.istore_n 2, 1) := by decide +kernel
theorem dX8_judge_49 : decode cX8_judge 49 = .ok (.aload_n 0, 1) := by decide +kernel
theorem dX8_judge_50 : decode cX8_judge 50 = .ok (.iconst 0, 1) := by decide +kernel
theorem dX8_judge_51 : decode cX8_judge 51 = .ok (.putfield 42, 3) := by decide +kernel
theorem dX8_judge_54 : decode cX8_judge 54 = .ok (.iload_n 2, 1) := by decide +kernel
theorem dX8_judge_55 : decode cX8_judge 55 = .ok (.ireturn, 1) := by decide +kernel
theorem dX8_seeds_0 : decode cX8_seeds 0 = .ok (.aload_n 0, 1) := by decide +kernel
theorem dX8_seeds_1 : decode cX8_seeds 1 = .ok (.getfield 10, 3) := by decide +kernel
theorem dX8_seeds_4 : decode cX8_seeds 4 = .ok (.iload_n 3, 1) := by decide +kernel
theorem dX8_seeds_5 : decode cX8_seeds 5 = .ok (.invokevirtual 76, 3) := by decide +kernel
theorem dX8_seeds_8 : decode cX8_seeds 8 = .ok (.ifCond .eq 13, 3) := by decide +kernel
theorem dX8_seeds_11 : decode cX8_seeds 11 = .ok (.iload_n 1, 1) := by decide +kernel
theorem dX8_seeds_12 : decode cX8_seeds 12 = .ok (.iconst 1, 1) := by decide +kernel
theorem dX8_seeds_13 : decode cX8_seeds 13 = .ok (.bipush 30, 2) := by decide +kernel
theorem dX8_seeds_15 : decode cX8_seeds 15 = .ok (.invokestatic 50, 3) := by decide +kernel
theorem dX8_seeds_18 : decode cX8_seeds 18 = .ok (.goto 4, 3) := by decide +kernel
theorem dX8_seeds_21 : decode cX8_seeds 21 = .ok (.iconst (-1), 1) := by decide +kernel
theorem dX8_seeds_22 : decode cX8_seeds 22 = .ok (.istore 4, 2) := by decide +kernel
theorem dX8_seeds_24 : decode cX8_seeds 24 = .ok (.iload 4, 2) := by decide +kernel
theorem dX8_seeds_26 : decode cX8_seeds 26 = .ok (.ifCond .eq 10, 3) := by decide +kernel
theorem dX8_seeds_29 : decode cX8_seeds 29 = .ok (.aload_n 0, 1) := by decide +kernel
theorem dX8_seeds_30 : decode cX8_seeds 30 = .ok (.iload 4, 2) := by decide +kernel
theorem dX8_seeds_32 : decode cX8_seeds 32 = .ok (.invokevirtual 58, 3) := by decide +kernel
theorem dX8_seeds_35 : decode cX8_seeds 35 = .ok (.ireturn, 1) := by decide +kernel
theorem dX8_seeds_36 : decode cX8_seeds 36 = .ok (.aload_n 0, 1) := by decide +kernel
theorem dX8_seeds_37 : decode cX8_seeds 37 = .ok (.getfield 16, 3) := by decide +kernel
theorem dX8_seeds_40 : decode cX8_seeds 40 = .ok (.aload_n 0, 1) := by decide +kernel
theorem dX8_seeds_41 : decode cX8_seeds 41 = .ok (.getfield 10, 3) := by decide +kernel
theorem dX8_seeds_44 : decode cX8_seeds 44 = .ok (.invokevirtual 141, 3) := by decide +kernel
theorem dX8_seeds_47 : decode cX8_seeds 47 = .ok (.iload_n 2, 1) := by decide +kernel
theorem dX8_seeds_48 : decode cX8_seeds 48 = .ok (.istore 5, 2) := by decide +kernel
theorem dX8_seeds_50 : decode cX8_seeds 50 = .ok (.iconst 0, 1) := by decide +kernel
theorem dX8_seeds_51 : decode cX8_seeds 51 = .ok (.istore 6, 2) := by decide +kernel
theorem dX8_seeds_53 : decode cX8_seeds 53 = .ok (.iload 6, 2) := by decide +kernel
theorem dX8_seeds_55 : decode cX8_seeds 55 = .ok (.iload_n 1, 1) := by decide +kernel
theorem dX8_seeds_56 : decode cX8_seeds 56 = .ok (.if_icmp .ge 45, 3) := by decide +kernel
theorem dX8_seeds_59 : decode cX8_seeds 59 = .ok (.iload 5, 2) := by decide +kernel
theorem dX8_seeds_61 : decode cX8_seeds 61 = .ok (.invokestatic 202, 3) := by decide +kernel
theorem dX8_seeds_64 : decode cX8_seeds 64 = .ok (.istore 5, 2) := by decide +kernel
theorem dX8_seeds_66 : decode cX8_seeds 66 = .ok (.aload_n 0, 1) := by decide +kernel
theorem dX8_seeds_67 : decode cX8_seeds 67 = .ok (.getfield 16, 3) := by decide +kernel
theorem dX8_seeds_70 : decode cX8_seeds 70 = .ok (.iload 5, 2) := by decide +kernel
theorem dX8_seeds_72 : decode cX8_seeds 72 = .ok (.iconst 1, 1) := by decide +kernel
theorem dX8_seeds_73 : decode cX8_seeds 73 = .ok (.aload_n 0, 1) := by decide +kernel
theorem dX8_seeds_74 : decode cX8_seeds 74 = .ok (.getfield 10, 3) := by decide +kernel
theorem dX8_seeds_77 : decode cX8_seeds 77 = .ok (.getfield 177, 3) := by decide +kernel
theorem dX8_seeds_80 : decode cX8_seeds 80 = .ok (.ishl, 1) := by decide +kernel
theorem dX8_seeds_81 : decode cX8_seeds 81 = .ok (.invokestatic 205, 3) := by decide +kernel
theorem dX8_seeds_84 : decode cX8_seeds 84 = .ok (.putfield 180, 3) := by decide +kernel
theorem dX8_seeds_87 : decode cX8_seeds 87 = .ok (.aload_n 0, 1) := by decide +kernel
theorem dX8_seeds_88 : decode cX8_seeds 88 = .ok (.getfield 16, 3) := by decide +kernel
theorem dX8_seeds_91 : decode cX8_seeds 91 = .ok (.invokevirtual 134, 3) := by decide +kernel
theorem dX8_seeds_94 : decode cX8_seeds 94 = .ok (.pop, 1) := by decide +kernel
theorem dX8_seeds_95 : decode cX8_seeds 95 = .ok (.iinc 6 1, 3) := by decide +kernel
theorem dX8_seeds_98 : decode cX8_seeds 98 = .ok (.goto (-45), 3) := by decide +kernel
theorem dX8_seeds_101 : decode cX8_seeds 101 = .ok (.aload_n 0, 1) := by decide +kernel
theorem dX8_seeds_102 : decode cX8_seeds 102 = .ok (.getfield 16, 3) := by decide +kernel
theorem dX8_seeds_105 : decode cX8_seeds 105 = .ok (.iload_n 3, 1) := by decide +kernel
theorem dX8_seeds_106 : decode cX8_seeds 106 = .ok (.invokevirtual 89, 3) := by decide +kernel
theorem dX8_seeds_109 : decode cX8_seeds 109 = .ok (.ireturn, 1) := by decide +kernel
theorem dX8_image_0 : decode cX8_image 0 = .ok (.aload_n 0, 1) := by decide +kernel
theorem dX8_image_1 : decode cX8_image 1 = .ok (.getfield 19, 3) := by decide +kernel
theorem dX8_image_4 : decode cX8_image 4 = .ok (.aload_n 0, 1) := by decide +kernel
theorem dX8_image_5 : decode cX8_image 5 = .ok (.getfield 10, 3) := by decide +kernel
theorem dX8_image_8 : decode cX8_image 8 = .ok (.invokevirtual 141, 3) := by decide +kernel
theorem dX8_image_11 : decode cX8_image 11 = .ok (.aload_n 0, 1) := by decide +kernel
theorem dX8_image_12 : decode cX8_image 12 = .ok (.iconst 1, 1) := by decide +kernel
theorem dX8_image_13 : decode cX8_image 13 = .ok (.putfield 46, 3) := by decide +kernel
theorem dX8_image_16 : decode cX8_image 16 = .ok (.aload_n 0, 1) := by decide +kernel
theorem dX8_image_17 : decode cX8_image 17 = .ok (.getfield 10, 3) := by decide +kernel
theorem dX8_image_20 : decode cX8_image 20 = .ok (.getfield 131, 3) := by decide +kernel
theorem dX8_image_23 : decode cX8_image 23 = .ok (.ireturn, 1) := by decide +kernel
theorem dX8_on_0 : decode cX8_on 0 = .ok (.aload_n 0, 1) := by decide +kernel
theorem dX8_on_1 : decode cX8_on 1 = .ok (.getfield 46, 3) := by decide +kernel
theorem dX8_on_4 : decode cX8_on 4 = .ok (.ifCond .ne 10, 3) := by decide +kernel
theorem dX8_on_7 : decode cX8_on 7 = .ok (.aload_n 0, 1) := by decide +kernel
theorem dX8_on_8 : decode cX8_on 8 = .ok (.bipush (-3), 2) := by decide +kernel
theorem dX8_on_10 : decode cX8_on 10 = .ok (.invokevirtual 58, 3) := by decide +kernel
theorem dX8_on_13 : decode cX8_on 13 = .ok (.ireturn, 1) := by decide +kernel
theorem dX8_on_14 : decode cX8_on 14 = .ok (.aload_n 0, 1) := by decide +kernel
theorem dX8_on_15 : decode cX8_on 15 = .ok (.getfield 10, 3) := by decide +kernel
theorem dX8_on_18 : decode cX8_on 18 = .ok (.aload_n 0, 1) := by decide +kernel
theorem dX8_on_19 : decode cX8_on 19 = .ok (.getfield 19, 3) := by decide +kernel
theorem dX8_on_22 : decode cX8_on 22 = .ok (.invokevirtual 141, 3) := by decide +kernel
theorem dX8_on_25 : decode cX8_on 25 = .ok (.aload_n 0, 1) := by decide +kernel
theorem dX8_on_26 : decode cX8_on 26 = .ok (.getfield 10, 3) := by decide +kernel
theorem dX8_on_29 : decode cX8_on 29 = .ok (.getfield 131, 3) := by decide +kernel
theorem dX8_on_32 : decode cX8_on 32 = .ok (.ireturn, 1) := by decide +kernel
theorem dX8_count_0 : decode cX8_count 0 = .ok (.iload_n 1, 1) := by decide +kernel
theorem dX8_count_1 : decode cX8_count 1 = .ok (.tableswitch 138 0 8 #[51, 59, 67, 75, 94, 102, 110, 125, 130], 51) := by decide +kernel
theorem dX8_count_52 : decode cX8_count 52 = .ok (.aload_n 0, 1) := by decide +kernel
theorem dX8_count_53 : decode cX8_count 53 = .ok (.getfield 10, 3) := by decide +kernel
theorem dX8_count_56 : decode cX8_count 56 = .ok (.getfield 177, 3) := by decide +kernel
theorem dX8_count_59 : decode cX8_count 59 = .ok (.ireturn, 1) := by decide +kernel
theorem dX8_count_60 : decode cX8_count 60 = .ok (.aload_n 0, 1) := by decide +kernel
theorem dX8_count_61 : decode cX8_count 61 = .ok (.getfield 10, 3) := by decide +kernel
theorem dX8_count_64 : decode cX8_count 64 = .ok (.getfield 186, 3) := by decide +kernel
theorem dX8_count_67 : decode cX8_count 67 = .ok (.ireturn, 1) := by decide +kernel
theorem dX8_count_68 : decode cX8_count 68 = .ok (.aload_n 0, 1) := by decide +kernel
theorem dX8_count_69 : decode cX8_count 69 = .ok (.getfield 10, 3) := by decide +kernel
theorem dX8_count_72 : decode cX8_count 72 = .ok (.getfield 131, 3) := by decide +kernel
theorem dX8_count_75 : decode cX8_count 75 = .ok (.ireturn, 1) := by decide +kernel
theorem dX8_count_76 : decode cX8_count 76 = .ok (.aload_n 0, 1) := by decide +kernel
theorem dX8_count_77 : decode cX8_count 77 = .ok (.getfield 10, 3) := by decide +kernel
theorem dX8_count_80 : decode cX8_count 80 = .ok (.getfield 186, 3) := by decide +kernel
theorem dX8_count_83 : decode cX8_count 83 = .ok (.aload_n 0, 1) := by decide +kernel
theorem dX8_count_84 : decode cX8_count 84 = .ok (.getfield 10, 3) := by decide +kernel
theorem dX8_count_87 : decode cX8_count 87 = .ok (.invokevirtual 152, 3) := by decide +kernel
theorem dX8_count_90 : decode cX8_count 90 = .ok (.invokestatic 208, 3) := by decide +kernel
theorem dX8_count_93 : decode cX8_count 93 = .ok (.isub, 1) := by decide +kernel
theorem dX8_count_94 : decode cX8_count 94 = .ok (.ireturn, 1) := by decide +kernel
theorem dX8_count_95 : decode cX8_count 95 = .ok (.aload_n 0, 1) := by decide +kernel
theorem dX8_count_96 : decode cX8_count 96 = .ok (.getfield 10, 3) := by decide +kernel
theorem dX8_count_99 : decode cX8_count 99 = .ok (.getfield 122, 3) := by decide +kernel
theorem dX8_count_102 : decode cX8_count 102 = .ok (.ireturn, 1) := by decide +kernel
theorem dX8_count_103 : decode cX8_count 103 = .ok (.aload_n 0, 1) := by decide +kernel
theorem dX8_count_104 : decode cX8_count 104 = .ok (.getfield 10, 3) := by decide +kernel
theorem dX8_count_107 : decode cX8_count 107 = .ok (.getfield 180, 3) := by decide +kernel
theorem dX8_count_110 : decode cX8_count 110 = .ok (.ireturn, 1) := by decide +kernel
theorem dX8_count_111 : decode cX8_count 111 = .ok (.aload_n 0, 1) := by decide +kernel
theorem dX8_count_112 : decode cX8_count 112 = .ok (.getfield 10, 3) := by decide +kernel
theorem dX8_count_115 : decode cX8_count 115 = .ok (.aload_n 0, 1) := by decide +kernel
theorem dX8_count_116 : decode cX8_count 116 = .ok (.getfield 10, 3) := by decide +kernel
theorem dX8_count_119 : decode cX8_count 119 = .ok (.invokevirtual 152, 3) := by decide +kernel
theorem dX8_count_122 : decode cX8_count 122 = .ok (.invokevirtual 213, 3) := by decide +kernel
theorem dX8_count_125 : decode cX8_count 125 = .ok (.ireturn, 1) := by decide +kernel
theorem dX8_count_126 : decode cX8_count 126 = .ok (.aload_n 0, 1) := by decide +kernel
theorem dX8_count_127 : decode cX8_count 127 = .ok (.getfield 42, 3) := by decide +kernel
theorem dX8_count_130 : decode cX8_count 130 = .ok (.ireturn, 1) := by decide +kernel
theorem dX8_count_131 : decode cX8_count 131 = .ok (.aload_n 0, 1) := by decide +kernel
theorem dX8_count_132 : decode cX8_count 132 = .ok (.getfield 25, 3) := by decide +kernel
theorem dX8_count_135 : decode cX8_count 135 = .ok (.getfield 66, 3) := by decide +kernel
theorem dX8_count_138 : decode cX8_count 138 = .ok (.ireturn, 1) := by decide +kernel
theorem dX8_count_139 : decode cX8_count 139 = .ok (.aload_n 0, 1) := by decide +kernel
theorem dX8_count_140 : decode cX8_count 140 = .ok (.iload_n 1, 1) := by decide +kernel
theorem dX8_count_141 : decode cX8_count 141 = .ok (.bipush 10, 2) := by decide +kernel
theorem dX8_count_143 : decode cX8_count 143 = .ok (.isub, 1) := by decide +kernel
theorem dX8_count_144 : decode cX8_count 144 = .ok (.invokevirtual 216, 3) := by decide +kernel
theorem dX8_count_147 : decode cX8_count 147 = .ok (.ireturn, 1) := by decide +kernel
theorem dX8_outside_0 : decode cX8_outside 0 = .ok (.iload_n 0, 1) := by decide +kernel
theorem dX8_outside_1 : decode cX8_outside 1 = .ok (.iload_n 1, 1) := by decide +kernel
theorem dX8_outside_2 : decode cX8_outside 2 = .ok (.if_icmp .ge 6, 3) := by decide +kernel
theorem dX8_outside_5 : decode cX8_outside 5 = .ok (.bipush (-4), 2) := by decide +kernel
theorem dX8_outside_7 : decode cX8_outside 7 = .ok (.ireturn, 1) := by decide +kernel
theorem dX8_outside_8 : decode cX8_outside 8 = .ok (.iload_n 0, 1) := by decide +kernel
theorem dX8_outside_9 : decode cX8_outside 9 = .ok (.iload_n 2, 1) := by decide +kernel
theorem dX8_outside_10 : decode cX8_outside 10 = .ok (.if_icmp .le 8, 3) := by decide +kernel
theorem dX8_outside_13 : decode cX8_outside 13 = .ok (.bipush (-6), 2) := by decide +kernel
theorem dX8_outside_15 : decode cX8_outside 15 = .ok (.goto 4, 3) := by decide +kernel
theorem dX8_outside_18 : decode cX8_outside 18 = .ok (.iconst 0, 1) := by decide +kernel
theorem dX8_outside_19 : decode cX8_outside 19 = .ok (.ireturn, 1) := by decide +kernel
theorem dX8_refuse_0 : decode cX8_refuse 0 = .ok (.iload_n 1, 1) := by decide +kernel
theorem dX8_refuse_1 : decode cX8_refuse 1 = .ok (.ineg, 1) := by decide +kernel
theorem dX8_refuse_2 : decode cX8_refuse 2 = .ok (.istore_n 2, 1) := by decide +kernel
theorem dX8_refuse_3 : decode cX8_refuse 3 = .ok (.iload_n 2, 1) := by decide +kernel
theorem dX8_refuse_4 : decode cX8_refuse 4 = .ok (.ifCond .le 22, 3) := by decide +kernel
theorem dX8_refuse_7 : decode cX8_refuse 7 = .ok (.iload_n 2, 1) := by decide +kernel
theorem dX8_refuse_8 : decode cX8_refuse 8 = .ok (.aload_n 0, 1) := by decide +kernel
theorem dX8_refuse_9 : decode cX8_refuse 9 = .ok (.getfield 39, 3) := by decide +kernel
theorem dX8_refuse_12 : decode cX8_refuse 12 = .ok (.arraylength, 1) := by decide +kernel
theorem dX8_refuse_13 : decode cX8_refuse 13 = .ok (.if_icmp .ge 13, 3) := by decide +kernel
theorem dX8_refuse_16 : decode cX8_refuse 16 = .ok (.aload_n 0, 1) := by decide +kernel
theorem dX8_refuse_17 : decode cX8_refuse 17 = .ok (.getfield 39, 3) := by decide +kernel
theorem dX8_refuse_20 : decode cX8_refuse 20 = .ok (.iload_n 2, 1) := by decide +kernel
theorem dX8_refuse_21 : decode cX8_refuse 21 = .ok (.dup2, 1) := by decide +kernel
theorem dX8_refuse_22 : decode cX8_refuse 22 = .ok (.iaload, 1) := by decide +kernel
theorem dX8_refuse_23 : decode cX8_refuse 23 = .ok (.iconst 1, 1) := by decide +kernel
theorem dX8_refuse_24 : decode cX8_refuse 24 = .ok (.iadd, 1) := by decide +kernel
theorem dX8_refuse_25 : decode cX8_refuse 25 = .ok (.iastore, 1) := by decide +kernel
theorem dX8_refuse_26 : decode cX8_refuse 26 = .ok (.iload_n 1, 1) := by decide +kernel
theorem dX8_refuse_27 : decode cX8_refuse 27 = .ok (.ireturn, 1) := by decide +kernel
theorem dX8_refusalsCounted_0 : decode cX8_refusalsCounted 0 = .ok (.iload_n 1, 1) := by decide +kernel
theorem dX8_refusalsCounted_1 : decode cX8_refusalsCounted 1 = .ok (.ifCond .le 21, 3) := by decide +kernel
theorem dX8_refusalsCounted_4 : decode cX8_refusalsCounted 4 = .ok (.iload_n 1, 1) := by decide +kernel
theorem dX8_refusalsCounted_5 : decode cX8_refusalsCounted 5 = .ok (.aload_n 0, 1) := by decide +kernel
theorem dX8_refusalsCounted_6 : decode cX8_refusalsCounted 6 = .ok (.getfield 39, 3) := by decide +kernel
theorem dX8_refusalsCounted_9 : decode cX8_refusalsCounted 9 = .ok (.arraylength, 1) := by decide +kernel
theorem dX8_refusalsCounted_10 : decode cX8_refusalsCounted 10 = .ok (.if_icmp .ge 12, 3) := by decide +kernel
theorem dX8_refusalsCounted_13 : decode cX8_refusalsCounted 13 = .ok (.aload_n 0, 1) := by decide +kernel
theorem dX8_refusalsCounted_14 : decode cX8_refusalsCounted 14 = .ok (.getfield 39, 3) := by decide +kernel
theorem dX8_refusalsCounted_17 : decode cX8_refusalsCounted 17 = .ok (.iload_n 1, 1) := by decide +kernel
theorem dX8_refusalsCounted_18 : decode cX8_refusalsCounted 18 = .ok (.iaload, 1) := by decide +kernel
theorem dX8_refusalsCounted_19 : decode cX8_refusalsCounted 19 = .ok (.goto 5, 3) := by decide +kernel
theorem dX8_refusalsCounted_22 : decode cX8_refusalsCounted 22 = .ok (.bipush (-9), 2) := by decide +kernel
theorem dX8_refusalsCounted_24 : decode cX8_refusalsCounted 24 = .ok (.ireturn, 1) := by decide +kernel
theorem dX8_textBecomesTown_0 : decode cX8_textBecomesTown 0 = .ok (.aload_n 0, 1) := by decide +kernel
theorem dX8_textBecomesTown_1 : decode cX8_textBecomesTown 1 = .ok (.getfield 25, 3) := by decide +kernel
theorem dX8_textBecomesTown_4 : decode cX8_textBecomesTown 4 = .ok (.invokevirtual 219, 3) := by decide +kernel
theorem dX8_textBecomesTown_7 : decode cX8_textBecomesTown 7 = .ok (.istore_n 1, 1) := by decide +kernel
theorem dX8_textBecomesTown_8 : decode cX8_textBecomesTown 8 = .ok (.iload_n 1, 1) := by decide +kernel
theorem dX8_textBecomesTown_9 : decode cX8_textBecomesTown 9 = .ok (.iconst (-1), 1) := by decide +kernel
theorem dX8_textBecomesTown_10 : decode cX8_textBecomesTown 10 = .ok (.if_icmp .eq 9, 3) := by decide +kernel
theorem dX8_textBecomesTown_13 : decode cX8_textBecomesTown 13 = .ok (.sipush (-1000), 3) := by decide +kernel
theorem dX8_textBecomesTown_16 : decode cX8_textBecomesTown 16 = .ok (.iload_n 1, 1) := by decide +kernel
theorem dX8_textBecomesTown_17 : decode cX8_textBecomesTown 17 = .ok (.isub, 1) := by decide +kernel
theorem dX8_textBecomesTown_18 : decode cX8_textBecomesTown 18 = .ok (.ireturn, 1) := by decide +kernel
theorem dX8_textBecomesTown_19 : decode cX8_textBecomesTown 19 = .ok (.aload_n 0, 1) := by decide +kernel
theorem dX8_textBecomesTown_20 : decode cX8_textBecomesTown 20 = .ok (.getfield 16, 3) := by decide +kernel
theorem dX8_textBecomesTown_23 : decode cX8_textBecomesTown 23 = .ok (.aload_n 0, 1) := by decide +kernel
theorem dX8_textBecomesTown_24 : decode cX8_textBecomesTown 24 = .ok (.getfield 10, 3) := by decide +kernel
theorem dX8_textBecomesTown_27 : decode cX8_textBecomesTown 27 = .ok (.invokevirtual 141, 3) := by decide +kernel
theorem dX8_textBecomesTown_30 : decode cX8_textBecomesTown 30 = .ok (.aload_n 0, 1) := by decide +kernel
theorem dX8_textBecomesTown_31 : decode cX8_textBecomesTown 31 = .ok (.getfield 25, 3) := by decide +kernel
theorem dX8_textBecomesTown_34 : decode cX8_textBecomesTown 34 = .ok (.aload_n 0, 1) := by decide +kernel
theorem dX8_textBecomesTown_35 : decode cX8_textBecomesTown 35 = .ok (.getfield 16, 3) := by decide +kernel
theorem dX8_textBecomesTown_38 : decode cX8_textBecomesTown 38 = .ok (.invokevirtual 222, 3) := by decide +kernel
theorem dX8_textBecomesTown_41 : decode cX8_textBecomesTown 41 = .ok (.istore_n 1, 1) := by decide +kernel
theorem dX8_textBecomesTown_42 : decode cX8_textBecomesTown 42 = .ok (.iload_n 1, 1) := by decide +kernel
theorem dX8_textBecomesTown_43 : decode cX8_textBecomesTown 43 = .ok (.iconst (-1), 1) := by decide +kernel
theorem dX8_textBecomesTown_44 : decode cX8_textBecomesTown 44 = .ok (.if_icmp .eq 9, 3) := by decide +kernel
theorem dX8_textBecomesTown_47 : decode cX8_textBecomesTown 47 = .ok (.sipush (-2000), 3) := by decide +kernel
theorem dX8_textBecomesTown_50 : decode cX8_textBecomesTown 50 = .ok (.iload_n 1, 1) := by decide +kernel
theorem dX8_textBecomesTown_51 : decode cX8_textBecomesTown 51 = .ok (.isub, 1) := by decide +kernel
theorem dX8_textBecomesTown_52 : decode cX8_textBecomesTown 52 = .ok (.ireturn, 1) := by decide +kernel
theorem dX8_textBecomesTown_53 : decode cX8_textBecomesTown 53 = .ok (.aload_n 0, 1) := by decide +kernel
theorem dX8_textBecomesTown_54 : decode cX8_textBecomesTown 54 = .ok (.getfield 10, 3) := by decide +kernel
theorem dX8_textBecomesTown_57 : decode cX8_textBecomesTown 57 = .ok (.aload_n 0, 1) := by decide +kernel
theorem dX8_textBecomesTown_58 : decode cX8_textBecomesTown 58 = .ok (.getfield 16, 3) := by decide +kernel
theorem dX8_textBecomesTown_61 : decode cX8_textBecomesTown 61 = .ok (.invokevirtual 141, 3) := by decide +kernel
theorem dX8_textBecomesTown_64 : decode cX8_textBecomesTown 64 = .ok (.aload_n 0, 1) := by decide +kernel
theorem dX8_textBecomesTown_65 : decode cX8_textBecomesTown 65 = .ok (.getfield 25, 3) := by decide +kernel
theorem dX8_textBecomesTown_68 : decode cX8_textBecomesTown 68 = .ok (.invokevirtual 226, 3) := by decide +kernel
theorem dX8_textBecomesTown_71 : decode cX8_textBecomesTown 71 = .ok (.ireturn, 1) := by decide +kernel
theorem dX8_gainByCarrying_0 : decode cX8_gainByCarrying 0 = .ok (.aload_n 0, 1) := by decide +kernel
theorem dX8_gainByCarrying_1 : decode cX8_gainByCarrying 1 = .ok (.getfield 16, 3) := by decide +kernel
theorem dX8_gainByCarrying_4 : decode cX8_gainByCarrying 4 = .ok (.aload_n 0, 1) := by decide +kernel
theorem dX8_gainByCarrying_5 : decode cX8_gainByCarrying 5 = .ok (.getfield 10, 3) := by decide +kernel
theorem dX8_gainByCarrying_8 : decode cX8_gainByCarrying 8 = .ok (.invokevirtual 141, 3) := by decide +kernel
theorem dX8_gainByCarrying_11 : decode cX8_gainByCarrying 11 = .ok (.iconst 0, 1) := by decide +kernel
theorem dX8_gainByCarrying_12 : decode cX8_gainByCarrying 12 = .ok (.istore 4, 2) := by decide +kernel
theorem dX8_gainByCarrying_14 : decode cX8_gainByCarrying 14 = .ok (.iload 4, 2) := by decide +kernel
theorem dX8_gainByCarrying_16 : decode cX8_gainByCarrying 16 = .ok (.aload_n 0, 1) := by decide +kernel
theorem dX8_gainByCarrying_17 : decode cX8_gainByCarrying 17 = .ok (.getfield 10, 3) := by decide +kernel
theorem dX8_gainByCarrying_20 : decode cX8_gainByCarrying 20 = .ok (.getfield 186, 3) := by decide +kernel
theorem dX8_gainByCarrying_23 : decode cX8_gainByCarrying 23 = .ok (.if_icmp .ge 29, 3) := by decide +kernel
theorem dX8_gainByCarrying_26 : decode cX8_gainByCarrying 26 = .ok (.iload_n 1, 1) := by decide +kernel
theorem dX8_gainByCarrying_27 : decode cX8_gainByCarrying 27 = .ok (.iload 4, 2) := by decide +kernel
theorem dX8_gainByCarrying_29 : decode cX8_gainByCarrying 29 = .ok (.invokestatic 229, 3) := by decide +kernel
theorem dX8_gainByCarrying_32 : decode cX8_gainByCarrying 32 = .ok (.ifCond .eq 14, 3) := by decide +kernel
theorem dX8_gainByCarrying_35 : decode cX8_gainByCarrying 35 = .ok (.aload_n 0, 1) := by decide +kernel
theorem dX8_gainByCarrying_36 : decode cX8_gainByCarrying 36 = .ok (.getfield 16, 3) := by decide +kernel
theorem dX8_gainByCarrying_39 : decode cX8_gainByCarrying 39 = .ok (.getfield 107, 3) := by decide +kernel
theorem dX8_gainByCarrying_42 : decode cX8_gainByCarrying 42 = .ok (.iload 4, 2) := by decide +kernel
theorem dX8_gainByCarrying_44 : decode cX8_gainByCarrying 44 = .ok (.iload_n 2, 1) := by decide +kernel
theorem dX8_gainByCarrying_45 : decode cX8_gainByCarrying 45 = .ok (.iastore, 1) := by decide +kernel
theorem dX8_gainByCarrying_46 : decode cX8_gainByCarrying 46 = .ok (.iinc 4 1, 3) := by decide +kernel
theorem dX8_gainByCarrying_49 : decode cX8_gainByCarrying 49 = .ok (.goto (-35), 3) := by decide +kernel
theorem dX8_gainByCarrying_52 : decode cX8_gainByCarrying 52 = .ok (.aload_n 0, 1) := by decide +kernel
theorem dX8_gainByCarrying_53 : decode cX8_gainByCarrying 53 = .ok (.getfield 16, 3) := by decide +kernel
theorem dX8_gainByCarrying_56 : decode cX8_gainByCarrying 56 = .ok (.iload_n 3, 1) := by decide +kernel
theorem dX8_gainByCarrying_57 : decode cX8_gainByCarrying 57 = .ok (.invokevirtual 145, 3) := by decide +kernel
theorem dX8_gainByCarrying_60 : decode cX8_gainByCarrying 60 = .ok (.pop, 1) := by decide +kernel
theorem dX8_gainByCarrying_61 : decode cX8_gainByCarrying 61 = .ok (.iconst 0, 1) := by decide +kernel
theorem dX8_gainByCarrying_62 : decode cX8_gainByCarrying 62 = .ok (.istore 4, 2) := by decide +kernel
theorem dX8_gainByCarrying_64 : decode cX8_gainByCarrying 64 = .ok (.iload 4, 2) := by decide +kernel
theorem dX8_gainByCarrying_66 : decode cX8_gainByCarrying 66 = .ok (.aload_n 0, 1) := by decide +kernel
theorem dX8_gainByCarrying_67 : decode cX8_gainByCarrying 67 = .ok (.getfield 10, 3) := by decide +kernel
theorem dX8_gainByCarrying_70 : decode cX8_gainByCarrying 70 = .ok (.getfield 186, 3) := by decide +kernel
theorem dX8_gainByCarrying_73 : decode cX8_gainByCarrying 73 = .ok (.if_icmp .ge 43, 3) := by decide +kernel
theorem dX8_gainByCarrying_76 : decode cX8_gainByCarrying 76 = .ok (.aload_n 0, 1) := by decide +kernel
theorem dX8_gainByCarrying_77 : decode cX8_gainByCarrying 77 = .ok (.getfield 36, 3) := by decide +kernel
theorem dX8_gainByCarrying_80 : decode cX8_gainByCarrying 80 = .ok (.iload 4, 2) := by decide +kernel
theorem dX8_gainByCarrying_82 : decode cX8_gainByCarrying 82 = .ok (.aload_n 0, 1) := by decide +kernel
theorem dX8_gainByCarrying_83 : decode cX8_gainByCarrying 83 = .ok (.getfield 16, 3) := by decide +kernel
theorem dX8_gainByCarrying_86 : decode cX8_gainByCarrying 86 = .ok (.getfield 107, 3) := by decide +kernel
theorem dX8_gainByCarrying_89 : decode cX8_gainByCarrying 89 = .ok (.iload 4, 2) := by decide +kernel
theorem dX8_gainByCarrying_91 : decode cX8_gainByCarrying 91 = .ok (.iaload, 1) := by decide +kernel
theorem dX8_gainByCarrying_92 : decode cX8_gainByCarrying 92 = .ok (.iload_n 2, 1) := by decide +kernel
theorem dX8_gainByCarrying_93 : decode cX8_gainByCarrying 93 = .ok (.if_icmp .ne 15, 3) := by decide +kernel
theorem dX8_gainByCarrying_96 : decode cX8_gainByCarrying 96 = .ok (.aload_n 0, 1) := by decide +kernel
theorem dX8_gainByCarrying_97 : decode cX8_gainByCarrying 97 = .ok (.getfield 16, 3) := by decide +kernel
theorem dX8_gainByCarrying_100 : decode cX8_gainByCarrying 100 = .ok (.iload 4, 2) := by decide +kernel
theorem dX8_gainByCarrying_102 : decode cX8_gainByCarrying 102 = .ok (.invokevirtual 113, 3) := by decide +kernel
theorem dX8_gainByCarrying_105 : decode cX8_gainByCarrying 105 = .ok (.goto 4, 3) := by decide +kernel
theorem dX8_gainByCarrying_108 : decode cX8_gainByCarrying 108 = .ok (.iconst 0, 1) := by decide +kernel
theorem dX8_gainByCarrying_109 : decode cX8_gainByCarrying 109 = .ok (.iastore, 1) := by decide +kernel
theorem dX8_gainByCarrying_110 : decode cX8_gainByCarrying 110 = .ok (.iinc 4 1, 3) := by decide +kernel
theorem dX8_gainByCarrying_113 : decode cX8_gainByCarrying 113 = .ok (.goto (-49), 3) := by decide +kernel
theorem dX8_gainByCarrying_116 : decode cX8_gainByCarrying 116 = .ok (.return_, 1) := by decide +kernel
theorem dX8_sumOfGains_0 : decode cX8_sumOfGains 0 = .ok (.iconst 0, 1) := by decide +kernel
theorem dX8_sumOfGains_1 : decode cX8_sumOfGains 1 = .ok (.istore_n 2, 1) := by decide +kernel
theorem dX8_sumOfGains_2 : decode cX8_sumOfGains 2 = .ok (.iconst 0, 1) := by decide +kernel
theorem dX8_sumOfGains_3 : decode cX8_sumOfGains 3 = .ok (.istore_n 3, 1) := by decide +kernel
theorem dX8_sumOfGains_4 : decode cX8_sumOfGains 4 = .ok (.iload_n 3, 1) := by decide +kernel
theorem dX8_sumOfGains_5 : decode cX8_sumOfGains 5 = .ok (.aload_n 0, 1) := by decide +kernel
theorem dX8_sumOfGains_6 : decode cX8_sumOfGains 6 = .ok (.getfield 10, 3) := by decide +kernel
theorem dX8_sumOfGains_9 : decode cX8_sumOfGains 9 = .ok (.getfield 186, 3) := by decide +kernel
theorem dX8_sumOfGains_12 : decode cX8_sumOfGains 12 = .ok (.if_icmp .ge 26, 3) := by decide +kernel
theorem dX8_sumOfGains_15 : decode cX8_sumOfGains 15 = .ok (.iload_n 1, 1) := by decide +kernel
theorem dX8_sumOfGains_16 : decode cX8_sumOfGains 16 = .ok (.iload_n 3, 1) := by decide +kernel
theorem dX8_sumOfGains_17 : decode cX8_sumOfGains 17 = .ok (.invokestatic 229, 3) := by decide +kernel
theorem dX8_sumOfGains_20 : decode cX8_sumOfGains 20 = .ok (.ifCond .eq 12, 3) := by decide +kernel
theorem dX8_sumOfGains_23 : decode cX8_sumOfGains 23 = .ok (.iload_n 2, 1) := by decide +kernel
theorem dX8_sumOfGains_24 : decode cX8_sumOfGains 24 = .ok (.aload_n 0, 1) := by decide +kernel
theorem dX8_sumOfGains_25 : decode cX8_sumOfGains 25 = .ok (.getfield 36, 3) := by decide +kernel
theorem dX8_sumOfGains_28 : decode cX8_sumOfGains 28 = .ok (.iload_n 3, 1) := by decide +kernel
theorem dX8_sumOfGains_29 : decode cX8_sumOfGains 29 = .ok (.iaload, 1) := by decide +kernel
theorem dX8_sumOfGains_30 : decode cX8_sumOfGains 30 = .ok (.iadd, 1) := by decide +kernel
theorem dX8_sumOfGains_31 : decode cX8_sumOfGains 31 = .ok (.istore_n 2, 1) := by decide +kernel
theorem dX8_sumOfGains_32 : decode cX8_sumOfGains 32 = .ok (.iinc 3 1, 3) := by decide +kernel
theorem dX8_sumOfGains_35 : decode cX8_sumOfGains 35 = .ok (.goto (-31), 3) := by decide +kernel
theorem dX8_sumOfGains_38 : decode cX8_sumOfGains 38 = .ok (.iload_n 2, 1) := by decide +kernel
theorem dX8_sumOfGains_39 : decode cX8_sumOfGains 39 = .ok (.ireturn, 1) := by decide +kernel
theorem dX8_cheapestSet_0 : decode cX8_cheapestSet 0 = .ok (.bipush (-9), 2) := by decide +kernel
theorem dX8_cheapestSet_2 : decode cX8_cheapestSet 2 = .ok (.istore_n 3, 1) := by decide +kernel
theorem dX8_cheapestSet_3 : decode cX8_cheapestSet 3 = .ok (.iconst 0, 1) := by decide +kernel
theorem dX8_cheapestSet_4 : decode cX8_cheapestSet 4 = .ok (.istore 4, 2) := by decide +kernel
theorem dX8_cheapestSet_6 : decode cX8_cheapestSet 6 = .ok (.iconst 0, 1) := by decide +kernel
theorem dX8_cheapestSet_7 : decode cX8_cheapestSet 7 = .ok (.istore 5, 2) := by decide +kernel
theorem dX8_cheapestSet_9 : decode cX8_cheapestSet 9 = .ok (.iload 5, 2) := by decide +kernel
theorem dX8_cheapestSet_11 : decode cX8_cheapestSet 11 = .ok (.iconst 1, 1) := by decide +kernel
theorem dX8_cheapestSet_12 : decode cX8_cheapestSet 12 = .ok (.aload_n 0, 1) := by decide +kernel
theorem dX8_cheapestSet_13 : decode cX8_cheapestSet 13 = .ok (.getfield 10, 3) := by decide +kernel
theorem dX8_cheapestSet_16 : decode cX8_cheapestSet 16 = .ok (.getfield 186, 3) := by decide +kernel
theorem dX8_cheapestSet_19 : decode cX8_cheapestSet 19 = .ok (.ishl, 1) := by decide +kernel
theorem dX8_cheapestSet_20 : decode cX8_cheapestSet 20 = .ok (.if_icmp .ge 59, 3) := by decide +kernel
theorem dX8_cheapestSet_23 : decode cX8_cheapestSet 23 = .ok (.iload 5, 2) := by decide +kernel
theorem dX8_cheapestSet_25 : decode cX8_cheapestSet 25 = .ok (.iload_n 1, 1) := by decide +kernel
theorem dX8_cheapestSet_26 : decode cX8_cheapestSet 26 = .ok (.iconst (-1), 1) := by decide +kernel
theorem dX8_cheapestSet_27 : decode cX8_cheapestSet 27 = .ok (.ixor, 1) := by decide +kernel
theorem dX8_cheapestSet_28 : decode cX8_cheapestSet 28 = .ok (.iand, 1) := by decide +kernel
theorem dX8_cheapestSet_29 : decode cX8_cheapestSet 29 = .ok (.ifCond .ne 44, 3) := by decide +kernel
theorem dX8_cheapestSet_32 : decode cX8_cheapestSet 32 = .ok (.aload_n 0, 1) := by decide +kernel
theorem dX8_cheapestSet_33 : decode cX8_cheapestSet 33 = .ok (.iload 5, 2) := by decide +kernel
theorem dX8_cheapestSet_35 : decode cX8_cheapestSet 35 = .ok (.invokevirtual 159, 3) := by decide +kernel
theorem dX8_cheapestSet_38 : decode cX8_cheapestSet 38 = .ok (.iload_n 2, 1) := by decide +kernel
theorem dX8_cheapestSet_39 : decode cX8_cheapestSet 39 = .ok (.if_icmp .lt 34, 3) := by decide +kernel
theorem dX8_cheapestSet_42 : decode cX8_cheapestSet 42 = .ok (.aload_n 0, 1) := by decide +kernel
theorem dX8_cheapestSet_43 : decode cX8_cheapestSet 43 = .ok (.getfield 10, 3) := by decide +kernel
theorem dX8_cheapestSet_46 : decode cX8_cheapestSet 46 = .ok (.iload 5, 2) := by decide +kernel
theorem dX8_cheapestSet_48 : decode cX8_cheapestSet 48 = .ok (.invokevirtual 213, 3) := by decide +kernel
theorem dX8_cheapestSet_51 : decode cX8_cheapestSet 51 = .ok (.istore 6, 2) := by decide +kernel
theorem dX8_cheapestSet_53 : decode cX8_cheapestSet 53 = .ok (.iload_n 3, 1) := by decide +kernel
theorem dX8_cheapestSet_54 : decode cX8_cheapestSet 54 = .ok (.bipush (-9), 2) := by decide +kernel
theorem dX8_cheapestSet_56 : decode cX8_cheapestSet 56 = .ok (.if_icmp .eq 10, 3) := by decide +kernel
theorem dX8_cheapestSet_59 : decode cX8_cheapestSet 59 = .ok (.iload 6, 2) := by decide +kernel
theorem dX8_cheapestSet_61 : decode cX8_cheapestSet 61 = .ok (.iload 4, 2) := by decide +kernel
theorem dX8_cheapestSet_63 : decode cX8_cheapestSet 63 = .ok (.if_icmp .ge 10, 3) := by decide +kernel
theorem dX8_cheapestSet_66 : decode cX8_cheapestSet 66 = .ok (.iload 6, 2) := by decide +kernel
theorem dX8_cheapestSet_68 : decode cX8_cheapestSet 68 = .ok (.istore 4, 2) := by decide +kernel
theorem dX8_cheapestSet_70 : decode cX8_cheapestSet 70 = .ok (.iload 5, 2) := by decide +kernel
theorem dX8_cheapestSet_72 : decode cX8_cheapestSet 72 = .ok (.istore_n 3, 1) := by decide +kernel
theorem dX8_cheapestSet_73 : decode cX8_cheapestSet 73 = .ok (.iinc 5 1, 3) := by decide +kernel
theorem dX8_cheapestSet_76 : decode cX8_cheapestSet 76 = .ok (.goto (-67), 3) := by decide +kernel
theorem dX8_cheapestSet_79 : decode cX8_cheapestSet 79 = .ok (.iload_n 3, 1) := by decide +kernel
theorem dX8_cheapestSet_80 : decode cX8_cheapestSet 80 = .ok (.ireturn, 1) := by decide +kernel
theorem dX8_joinLofts_0 : decode cX8_joinLofts 0 = .ok (.iconst 0, 1) := by decide +kernel
theorem dX8_joinLofts_1 : decode cX8_joinLofts 1 = .ok (.istore_n 2, 1) := by decide +kernel
theorem dX8_joinLofts_2 : decode cX8_joinLofts 2 = .ok (.iload_n 2, 1) := by decide +kernel
theorem dX8_joinLofts_3 : decode cX8_joinLofts 3 = .ok (.aload_n 0, 1) := by decide +kernel
theorem dX8_joinLofts_4 : decode cX8_joinLofts 4 = .ok (.getfield 10, 3) := by decide +kernel
theorem dX8_joinLofts_7 : decode cX8_joinLofts 7 = .ok (.getfield 177, 3) := by decide +kernel
theorem dX8_joinLofts_10 : decode cX8_joinLofts 10 = .ok (.if_icmp .ge 16, 3) := by decide +kernel
theorem dX8_joinLofts_13 : decode cX8_joinLofts 13 = .ok (.aload_n 0, 1) := by decide +kernel
theorem dX8_joinLofts_14 : decode cX8_joinLofts 14 = .ok (.getfield 33, 3) := by decide +kernel
theorem dX8_joinLofts_17 : decode cX8_joinLofts 17 = .ok (.iload_n 2, 1) := by decide +kernel
theorem dX8_joinLofts_18 : decode cX8_joinLofts 18 = .ok (.iload_n 2, 1) := by decide +kernel
theorem dX8_joinLofts_19 : decode cX8_joinLofts 19 = .ok (.iastore, 1) := by decide +kernel
theorem dX8_joinLofts_20 : decode cX8_joinLofts 20 = .ok (.iinc 2 1, 3) := by decide +kernel
theorem dX8_joinLofts_23 : decode cX8_joinLofts 23 = .ok (.goto (-21), 3) := by decide +kernel
theorem dX8_joinLofts_26 : decode cX8_joinLofts 26 = .ok (.iconst 0, 1) := by decide +kernel
theorem dX8_joinLofts_27 : decode cX8_joinLofts 27 = .ok (.istore_n 2, 1) := by decide +kernel
theorem dX8_joinLofts_28 : decode cX8_joinLofts 28 = .ok (.iload_n 2, 1) := by decide +kernel
theorem dX8_joinLofts_29 : decode cX8_joinLofts 29 = .ok (.aload_n 0, 1) := by decide +kernel
theorem dX8_joinLofts_30 : decode cX8_joinLofts 30 = .ok (.getfield 10, 3) := by decide +kernel
theorem dX8_joinLofts_33 : decode cX8_joinLofts 33 = .ok (.getfield 177, 3) := by decide +kernel
theorem dX8_joinLofts_36 : decode cX8_joinLofts 36 = .ok (.if_icmp .ge 34, 3) := by decide +kernel
theorem dX8_joinLofts_39 : decode cX8_joinLofts 39 = .ok (.iconst 0, 1) := by decide +kernel
theorem dX8_joinLofts_40 : decode cX8_joinLofts 40 = .ok (.istore_n 3, 1) := by decide +kernel
theorem dX8_joinLofts_41 : decode cX8_joinLofts 41 = .ok (.iload_n 3, 1) := by decide +kernel
theorem dX8_joinLofts_42 : decode cX8_joinLofts 42 = .ok (.aload_n 0, 1) := by decide +kernel
theorem dX8_joinLofts_43 : decode cX8_joinLofts 43 = .ok (.getfield 10, 3) := by decide +kernel
theorem dX8_joinLofts_46 : decode cX8_joinLofts 46 = .ok (.getfield 177, 3) := by decide +kernel
theorem dX8_joinLofts_49 : decode cX8_joinLofts 49 = .ok (.if_icmp .ge 15, 3) := by decide +kernel
theorem dX8_joinLofts_52 : decode cX8_joinLofts 52 = .ok (.aload_n 0, 1) := by decide +kernel
theorem dX8_joinLofts_53 : decode cX8_joinLofts 53 = .ok (.iload_n 3, 1) := by decide +kernel
theorem dX8_joinLofts_54 : decode cX8_joinLofts 54 = .ok (.iload_n 1, 1) := by decide +kernel
theorem dX8_joinLofts_55 : decode cX8_joinLofts 55 = .ok (.invokevirtual 232, 3) := by decide +kernel
theorem dX8_joinLofts_58 : decode cX8_joinLofts 58 = .ok (.iinc 3 1, 3) := by decide +kernel
theorem dX8_joinLofts_61 : decode cX8_joinLofts 61 = .ok (.goto (-20), 3) := by decide +kernel
theorem dX8_joinLofts_64 : decode cX8_joinLofts 64 = .ok (.iinc 2 1, 3) := by decide +kernel
theorem dX8_joinLofts_67 : decode cX8_joinLofts 67 = .ok (.goto (-39), 3) := by decide +kernel
theorem dX8_joinLofts_70 : decode cX8_joinLofts 70 = .ok (.return_, 1) := by decide +kernel
theorem dX8_takeLeastLeader_0 : decode cX8_takeLeastLeader 0 = .ok (.iconst 0, 1) := by decide +kernel
theorem dX8_takeLeastLeader_1 : decode cX8_takeLeastLeader 1 = .ok (.istore_n 3, 1) := by decide +kernel
theorem dX8_takeLeastLeader_2 : decode cX8_takeLeastLeader 2 = .ok (.iload_n 3, 1) := by decide +kernel
theorem dX8_takeLeastLeader_3 : decode cX8_takeLeastLeader 3 = .ok (.aload_n 0, 1) := by decide +kernel
theorem dX8_takeLeastLeader_4 : decode cX8_takeLeastLeader 4 = .ok (.getfield 10, 3) := by decide +kernel
theorem dX8_takeLeastLeader_7 : decode cX8_takeLeastLeader 7 = .ok (.getfield 177, 3) := by decide +kernel
theorem dX8_takeLeastLeader_10 : decode cX8_takeLeastLeader 10 = .ok (.if_icmp .ge 49, 3) := by decide +kernel
theorem dX8_takeLeastLeader_13 : decode cX8_takeLeastLeader 13 = .ok (.aload_n 0, 1) := by decide +kernel
theorem dX8_takeLeastLeader_14 : decode cX8_takeLeastLeader 14 = .ok (.getfield 10, 3) := by decide +kernel
theorem dX8_takeLeastLeader_17 : decode cX8_takeLeastLeader 17 = .ok (.iload_n 1, 1) := by decide +kernel
theorem dX8_takeLeastLeader_18 : decode cX8_takeLeastLeader 18 = .ok (.iload_n 3, 1) := by decide +kernel
theorem dX8_takeLeastLeader_19 : decode cX8_takeLeastLeader 19 = .ok (.invokevirtual 137, 3) := by decide +kernel
theorem dX8_takeLeastLeader_22 : decode cX8_takeLeastLeader 22 = .ok (.iload_n 2, 1) := by decide +kernel
theorem dX8_takeLeastLeader_23 : decode cX8_takeLeastLeader 23 = .ok (.if_icmp .gt 30, 3) := by decide +kernel
theorem dX8_takeLeastLeader_26 : decode cX8_takeLeastLeader 26 = .ok (.aload_n 0, 1) := by decide +kernel
theorem dX8_takeLeastLeader_27 : decode cX8_takeLeastLeader 27 = .ok (.getfield 33, 3) := by decide +kernel
theorem dX8_takeLeastLeader_30 : decode cX8_takeLeastLeader 30 = .ok (.iload_n 3, 1) := by decide +kernel
theorem dX8_takeLeastLeader_31 : decode cX8_takeLeastLeader 31 = .ok (.iaload, 1) := by decide +kernel
theorem dX8_takeLeastLeader_32 : decode cX8_takeLeastLeader 32 = .ok (.aload_n 0, 1) := by decide +kernel
theorem dX8_takeLeastLeader_33 : decode cX8_takeLeastLeader 33 = .ok (.getfield 33, 3) := by decide +kernel
theorem dX8_takeLeastLeader_36 : decode cX8_takeLeastLeader 36 = .ok (.iload_n 1, 1) := by decide +kernel
theorem dX8_takeLeastLeader_37 : decode cX8_takeLeastLeader 37 = .ok (.iaload, 1) := by decide +kernel
theorem dX8_takeLeastLeader_38 : decode cX8_takeLeastLeader 38 = .ok (.if_icmp .ge 15, 3) := by decide +kernel
theorem dX8_takeLeastLeader_41 : decode cX8_takeLeastLeader 41 = .ok (.aload_n 0, 1) := by decide +kernel
theorem dX8_takeLeastLeader_42 : decode cX8_takeLeastLeader 42 = .ok (.getfield 33, 3) := by decide +kernel
theorem dX8_takeLeastLeader_45 : decode cX8_takeLeastLeader 45 = .ok (.iload_n 1, 1) := by decide +kernel
theorem dX8_takeLeastLeader_46 : decode cX8_takeLeastLeader 46 = .ok (.aload_n 0, 1) := by decide +kernel
theorem dX8_takeLeastLeader_47 : decode cX8_takeLeastLeader 47 = .ok (.getfield 33, 3) := by decide +kernel
theorem dX8_takeLeastLeader_50 : decode cX8_takeLeastLeader 50 = .ok (.iload_n 3, 1) := by decide +kernel
theorem dX8_takeLeastLeader_51 : decode cX8_takeLeastLeader 51 = .ok (.iaload, 1) := by decide +kernel
theorem dX8_takeLeastLeader_52 : decode cX8_takeLeastLeader 52 = .ok (.iastore, 1) := by decide +kernel
theorem dX8_takeLeastLeader_53 : decode cX8_takeLeastLeader 53 = .ok (.iinc 3 1, 3) := by decide +kernel
theorem dX8_takeLeastLeader_56 : decode cX8_takeLeastLeader 56 = .ok (.goto (-54), 3) := by decide +kernel
theorem dX8_takeLeastLeader_59 : decode cX8_takeLeastLeader 59 = .ok (.return_, 1) := by decide +kernel
theorem dX8_purses_0 : decode cX8_purses 0 = .ok (.iconst 0, 1) := by decide +kernel
theorem dX8_purses_1 : decode cX8_purses 1 = .ok (.istore_n 1, 1) := by decide +kernel
theorem dX8_purses_2 : decode cX8_purses 2 = .ok (.iconst 0, 1) := by decide +kernel
theorem dX8_purses_3 : decode cX8_purses 3 = .ok (.istore_n 2, 1) := by decide +kernel
theorem dX8_purses_4 : decode cX8_purses 4 = .ok (.iload_n 2, 1) := by decide +kernel
theorem dX8_purses_5 : decode cX8_purses 5 = .ok (.aload_n 0, 1) := by decide +kernel
theorem dX8_purses_6 : decode cX8_purses 6 = .ok (.getfield 10, 3) := by decide +kernel
theorem dX8_purses_9 : decode cX8_purses 9 = .ok (.getfield 177, 3) := by decide +kernel
theorem dX8_purses_12 : decode cX8_purses 12 = .ok (.if_icmp .ge 22, 3) := by decide +kernel
theorem dX8_purses_15 : decode cX8_purses 15 = .ok (.aload_n 0, 1) := by decide +kernel
theorem dX8_purses_16 : decode cX8_purses 16 = .ok (.getfield 33, 3) := by decide +kernel
theorem dX8_purses_19 : decode cX8_purses 19 = .ok (.iload_n 2, 1) := by decide +kernel
theorem dX8_purses_20 : decode cX8_purses 20 = .ok (.iaload, 1) := by decide +kernel
theorem dX8_purses_21 : decode cX8_purses 21 = .ok (.iload_n 2, 1) := by decide +kernel
theorem dX8_purses_22 : decode cX8_purses 22 = .ok (.if_icmp .ne 6, 3) := by decide +kernel
theorem dX8_purses_25 : decode cX8_purses 25 = .ok (.iinc 1 1, 3) := by decide +kernel
theorem dX8_purses_28 : decode cX8_purses 28 = .ok (.iinc 2 1, 3) := by decide +kernel
theorem dX8_purses_31 : decode cX8_purses 31 = .ok (.goto (-27), 3) := by decide +kernel
theorem dX8_purses_34 : decode cX8_purses 34 = .ok (.iload_n 1, 1) := by decide +kernel
theorem dX8_purses_35 : decode cX8_purses 35 = .ok (.ireturn, 1) := by decide +kernel
theorem dX8_richest_0 : decode cX8_richest 0 = .ok (.bipush (-9), 2) := by decide +kernel
theorem dX8_richest_2 : decode cX8_richest 2 = .ok (.istore_n 1, 1) := by decide +kernel
theorem dX8_richest_3 : decode cX8_richest 3 = .ok (.iconst (-1), 1) := by decide +kernel
theorem dX8_richest_4 : decode cX8_richest 4 = .ok (.istore_n 2, 1) := by decide +kernel
theorem dX8_richest_5 : decode cX8_richest 5 = .ok (.iconst 0, 1) := by decide +kernel
theorem dX8_richest_6 : decode cX8_richest 6 = .ok (.istore_n 3, 1) := by decide +kernel
theorem dX8_richest_7 : decode cX8_richest 7 = .ok (.iload_n 3, 1) := by decide +kernel
theorem dX8_richest_8 : decode cX8_richest 8 = .ok (.aload_n 0, 1) := by decide +kernel
theorem dX8_richest_9 : decode cX8_richest 9 = .ok (.getfield 10, 3) := by decide +kernel
theorem dX8_richest_12 : decode cX8_richest 12 = .ok (.getfield 177, 3) := by decide +kernel
theorem dX8_richest_15 : decode cX8_richest 15 = .ok (.if_icmp .ge 41, 3) := by decide +kernel
theorem dX8_richest_18 : decode cX8_richest 18 = .ok (.aload_n 0, 1) := by decide +kernel
theorem dX8_richest_19 : decode cX8_richest 19 = .ok (.getfield 33, 3) := by decide +kernel
theorem dX8_richest_22 : decode cX8_richest 22 = .ok (.iload_n 3, 1) := by decide +kernel
theorem dX8_richest_23 : decode cX8_richest 23 = .ok (.iaload, 1) := by decide +kernel
theorem dX8_richest_24 : decode cX8_richest 24 = .ok (.iload_n 3, 1) := by decide +kernel
theorem dX8_richest_25 : decode cX8_richest 25 = .ok (.if_icmp .ne 11, 3) := by decide +kernel
theorem dX8_richest_28 : decode cX8_richest 28 = .ok (.aload_n 0, 1) := by decide +kernel
theorem dX8_richest_29 : decode cX8_richest 29 = .ok (.iload_n 3, 1) := by decide +kernel
theorem dX8_richest_30 : decode cX8_richest 30 = .ok (.invokevirtual 236, 3) := by decide +kernel
theorem dX8_richest_33 : decode cX8_richest 33 = .ok (.goto 4, 3) := by decide +kernel
theorem dX8_richest_36 : decode cX8_richest 36 = .ok (.iconst (-1), 1) := by decide +kernel
theorem dX8_richest_37 : decode cX8_richest 37 = .ok (.istore 4, 2) := by decide +kernel
theorem dX8_richest_39 : decode cX8_richest 39 = .ok (.iload 4, 2) := by decide +kernel
theorem dX8_richest_41 : decode cX8_richest 41 = .ok (.iload_n 2, 1) := by decide +kernel
theorem dX8_richest_42 : decode cX8_richest 42 = .ok (.if_icmp .le 8, 3) := by decide +kernel
theorem dX8_richest_45 : decode cX8_richest 45 = .ok (.iload 4, 2) := by decide +kernel
theorem dX8_richest_47 : decode cX8_richest 47 = .ok (.istore_n 2, 1) := by decide +kernel
theorem dX8_richest_48 : decode cX8_richest 48 = .ok (.iload_n 3, 1) := by decide +kernel
theorem dX8_richest_49 : decode cX8_richest 49 = .ok (.istore_n 1, 1) := by decide +kernel
theorem dX8_richest_50 : decode cX8_richest 50 = .ok (.iinc 3 1, 3) := by decide +kernel
theorem dX8_richest_53 : decode cX8_richest 53 = .ok (.goto (-46), 3) := by decide +kernel
theorem dX8_richest_56 : decode cX8_richest 56 = .ok (.iload_n 1, 1) := by decide +kernel
theorem dX8_richest_57 : decode cX8_richest 57 = .ok (.ireturn, 1) := by decide +kernel
theorem dX8_sumLedBy_0 : decode cX8_sumLedBy 0 = .ok (.iconst 0, 1) := by decide +kernel
theorem dX8_sumLedBy_1 : decode cX8_sumLedBy 1 = .ok (.istore_n 2, 1) := by decide +kernel
theorem dX8_sumLedBy_2 : decode cX8_sumLedBy 2 = .ok (.iconst 0, 1) := by decide +kernel
theorem dX8_sumLedBy_3 : decode cX8_sumLedBy 3 = .ok (.istore_n 3, 1) := by decide +kernel
theorem dX8_sumLedBy_4 : decode cX8_sumLedBy 4 = .ok (.iload_n 3, 1) := by decide +kernel
theorem dX8_sumLedBy_5 : decode cX8_sumLedBy 5 = .ok (.aload_n 0, 1) := by decide +kernel
theorem dX8_sumLedBy_6 : decode cX8_sumLedBy 6 = .ok (.getfield 10, 3) := by decide +kernel
theorem dX8_sumLedBy_9 : decode cX8_sumLedBy 9 = .ok (.getfield 177, 3) := by decide +kernel
theorem dX8_sumLedBy_12 : decode cX8_sumLedBy 12 = .ok (.if_icmp .ge 30, 3) := by decide +kernel
theorem dX8_sumLedBy_15 : decode cX8_sumLedBy 15 = .ok (.aload_n 0, 1) := by decide +kernel
theorem dX8_sumLedBy_16 : decode cX8_sumLedBy 16 = .ok (.getfield 33, 3) := by decide +kernel
theorem dX8_sumLedBy_19 : decode cX8_sumLedBy 19 = .ok (.iload_n 3, 1) := by decide +kernel
theorem dX8_sumLedBy_20 : decode cX8_sumLedBy 20 = .ok (.iaload, 1) := by decide +kernel
theorem dX8_sumLedBy_21 : decode cX8_sumLedBy 21 = .ok (.iload_n 1, 1) := by decide +kernel
theorem dX8_sumLedBy_22 : decode cX8_sumLedBy 22 = .ok (.if_icmp .ne 14, 3) := by decide +kernel
theorem dX8_sumLedBy_25 : decode cX8_sumLedBy 25 = .ok (.iload_n 2, 1) := by decide +kernel
theorem dX8_sumLedBy_26 : decode cX8_sumLedBy 26 = .ok (.aload_n 0, 1) := by decide +kernel
theorem dX8_sumLedBy_27 : decode cX8_sumLedBy 27 = .ok (.getfield 10, 3) := by decide +kernel
theorem dX8_sumLedBy_30 : decode cX8_sumLedBy 30 = .ok (.iload_n 3, 1) := by decide +kernel
theorem dX8_sumLedBy_31 : decode cX8_sumLedBy 31 = .ok (.invokevirtual 162, 3) := by decide +kernel
theorem dX8_sumLedBy_34 : decode cX8_sumLedBy 34 = .ok (.ior, 1) := by decide +kernel
theorem dX8_sumLedBy_35 : decode cX8_sumLedBy 35 = .ok (.istore_n 2, 1) := by decide +kernel
theorem dX8_sumLedBy_36 : decode cX8_sumLedBy 36 = .ok (.iinc 3 1, 3) := by decide +kernel
theorem dX8_sumLedBy_39 : decode cX8_sumLedBy 39 = .ok (.goto (-35), 3) := by decide +kernel
theorem dX8_sumLedBy_42 : decode cX8_sumLedBy 42 = .ok (.aload_n 0, 1) := by decide +kernel
theorem dX8_sumLedBy_43 : decode cX8_sumLedBy 43 = .ok (.getfield 10, 3) := by decide +kernel
theorem dX8_sumLedBy_46 : decode cX8_sumLedBy 46 = .ok (.iload_n 2, 1) := by decide +kernel
theorem dX8_sumLedBy_47 : decode cX8_sumLedBy 47 = .ok (.invokevirtual 213, 3) := by decide +kernel
theorem dX8_sumLedBy_50 : decode cX8_sumLedBy 50 = .ok (.ireturn, 1) := by decide +kernel
theorem dX8_makesRowTrue_0 : decode cX8_makesRowTrue 0 = .ok (.aload_n 0, 1) := by decide +kernel
theorem dX8_makesRowTrue_1 : decode cX8_makesRowTrue 1 = .ok (.getfield 10, 3) := by decide +kernel
theorem dX8_makesRowTrue_4 : decode cX8_makesRowTrue 4 = .ok (.iload_n 1, 1) := by decide +kernel
theorem dX8_makesRowTrue_5 : decode cX8_makesRowTrue 5 = .ok (.invokevirtual 125, 3) := by decide +kernel
theorem dX8_makesRowTrue_8 : decode cX8_makesRowTrue 8 = .ok (.ifCond .ne 16, 3) := by decide +kernel
theorem dX8_makesRowTrue_11 : decode cX8_makesRowTrue 11 = .ok (.aload_n 0, 1) := by decide +kernel
theorem dX8_makesRowTrue_12 : decode cX8_makesRowTrue 12 = .ok (.getfield 10, 3) := by decide +kernel
theorem dX8_makesRowTrue_15 : decode cX8_makesRowTrue 15 = .ok (.getfield 107, 3) := by decide +kernel
theorem dX8_makesRowTrue_18 : decode cX8_makesRowTrue 18 = .ok (.iload_n 1, 1) := by decide +kernel
theorem dX8_makesRowTrue_19 : decode cX8_makesRowTrue 19 = .ok (.iaload, 1) := by decide +kernel
theorem dX8_makesRowTrue_20 : decode cX8_makesRowTrue 20 = .ok (.iload_n 2, 1) := by decide +kernel
theorem dX8_makesRowTrue_21 : decode cX8_makesRowTrue 21 = .ok (.if_icmp .ne 5, 3) := by decide +kernel
theorem dX8_makesRowTrue_24 : decode cX8_makesRowTrue 24 = .ok (.iconst 0, 1) := by decide +kernel
theorem dX8_makesRowTrue_25 : decode cX8_makesRowTrue 25 = .ok (.ireturn, 1) := by decide +kernel
theorem dX8_makesRowTrue_26 : decode cX8_makesRowTrue 26 = .ok (.aload_n 0, 1) := by decide +kernel
theorem dX8_makesRowTrue_27 : decode cX8_makesRowTrue 27 = .ok (.getfield 16, 3) := by decide +kernel
theorem dX8_makesRowTrue_30 : decode cX8_makesRowTrue 30 = .ok (.aload_n 0, 1) := by decide +kernel
theorem dX8_makesRowTrue_31 : decode cX8_makesRowTrue 31 = .ok (.getfield 10, 3) := by decide +kernel
theorem dX8_makesRowTrue_34 : decode cX8_makesRowTrue 34 = .ok (.invokevirtual 141, 3) := by decide +kernel
theorem dX8_makesRowTrue_37 : decode cX8_makesRowTrue 37 = .ok (.aload_n 0, 1) := by decide +kernel
theorem dX8_makesRowTrue_38 : decode cX8_makesRowTrue 38 = .ok (.getfield 16, 3) := by decide +kernel
theorem dX8_makesRowTrue_41 : decode cX8_makesRowTrue 41 = .ok (.getfield 107, 3) := by decide +kernel
theorem dX8_makesRowTrue_44 : decode cX8_makesRowTrue 44 = .ok (.iload_n 1, 1) := by decide +kernel
theorem dX8_makesRowTrue_45 : decode cX8_makesRowTrue 45 = .ok (.iload_n 2, 1) := by decide +kernel
theorem dX8_makesRowTrue_46 : decode cX8_makesRowTrue 46 = .ok (.iastore, 1) := by decide +kernel
theorem dX8_makesRowTrue_47 : decode cX8_makesRowTrue 47 = .ok (.aload_n 0, 1) := by decide +kernel
theorem dX8_makesRowTrue_48 : decode cX8_makesRowTrue 48 = .ok (.getfield 16, 3) := by decide +kernel
theorem dX8_makesRowTrue_51 : decode cX8_makesRowTrue 51 = .ok (.invokevirtual 134, 3) := by decide +kernel
theorem dX8_makesRowTrue_54 : decode cX8_makesRowTrue 54 = .ok (.pop, 1) := by decide +kernel
theorem dX8_makesRowTrue_55 : decode cX8_makesRowTrue 55 = .ok (.aload_n 0, 1) := by decide +kernel
theorem dX8_makesRowTrue_56 : decode cX8_makesRowTrue 56 = .ok (.aload_n 0, 1) := by decide +kernel
theorem dX8_makesRowTrue_57 : decode cX8_makesRowTrue 57 = .ok (.getfield 16, 3) := by decide +kernel
theorem dX8_makesRowTrue_60 : decode cX8_makesRowTrue 60 = .ok (.aload_n 0, 1) := by decide +kernel
theorem dX8_makesRowTrue_61 : decode cX8_makesRowTrue 61 = .ok (.getfield 10, 3) := by decide +kernel
theorem dX8_makesRowTrue_64 : decode cX8_makesRowTrue 64 = .ok (.getfield 186, 3) := by decide +kernel
theorem dX8_makesRowTrue_67 : decode cX8_makesRowTrue 67 = .ok (.invokevirtual 198, 3) := by decide +kernel
theorem dX8_makesRowTrue_70 : decode cX8_makesRowTrue 70 = .ok (.aload_n 0, 1) := by decide +kernel
theorem dX8_makesRowTrue_71 : decode cX8_makesRowTrue 71 = .ok (.getfield 10, 3) := by decide +kernel
theorem dX8_makesRowTrue_74 : decode cX8_makesRowTrue 74 = .ok (.getfield 186, 3) := by decide +kernel
theorem dX8_makesRowTrue_77 : decode cX8_makesRowTrue 77 = .ok (.if_icmp .ne 7, 3) := by decide +kernel
theorem dX8_makesRowTrue_80 : decode cX8_makesRowTrue 80 = .ok (.iconst 1, 1) := by decide +kernel
theorem dX8_makesRowTrue_81 : decode cX8_makesRowTrue 81 = .ok (.goto 4, 3) := by decide +kernel
theorem dX8_makesRowTrue_84 : decode cX8_makesRowTrue 84 = .ok (.iconst 0, 1) := by decide +kernel
theorem dX8_makesRowTrue_85 : decode cX8_makesRowTrue 85 = .ok (.ireturn, 1) := by decide +kernel
theorem dX8_sameAsRow_0 : decode cX8_sameAsRow 0 = .ok (.iconst 0, 1) := by decide +kernel
theorem dX8_sameAsRow_1 : decode cX8_sameAsRow 1 = .ok (.istore_n 3, 1) := by decide +kernel
theorem dX8_sameAsRow_2 : decode cX8_sameAsRow 2 = .ok (.iload_n 3, 1) := by decide +kernel
theorem dX8_sameAsRow_3 : decode cX8_sameAsRow 3 = .ok (.iload_n 2, 1) := by decide +kernel
theorem dX8_sameAsRow_4 : decode cX8_sameAsRow 4 = .ok (.if_icmp .ge 33, 3) := by decide +kernel
theorem dX8_sameAsRow_7 : decode cX8_sameAsRow 7 = .ok (.iload_n 3, 1) := by decide +kernel
theorem dX8_sameAsRow_8 : decode cX8_sameAsRow 8 = .ok (.aload_n 0, 1) := by decide +kernel
theorem dX8_sameAsRow_9 : decode cX8_sameAsRow 9 = .ok (.getfield 29, 3) := by decide +kernel
theorem dX8_sameAsRow_12 : decode cX8_sameAsRow 12 = .ok (.arraylength, 1) := by decide +kernel
theorem dX8_sameAsRow_13 : decode cX8_sameAsRow 13 = .ok (.if_icmp .ge 24, 3) := by decide +kernel
theorem dX8_sameAsRow_16 : decode cX8_sameAsRow 16 = .ok (.aload_n 0, 1) := by decide +kernel
theorem dX8_sameAsRow_17 : decode cX8_sameAsRow 17 = .ok (.getfield 29, 3) := by decide +kernel
theorem dX8_sameAsRow_20 : decode cX8_sameAsRow 20 = .ok (.iload_n 3, 1) := by decide +kernel
theorem dX8_sameAsRow_21 : decode cX8_sameAsRow 21 = .ok (.iaload, 1) := by decide +kernel
theorem dX8_sameAsRow_22 : decode cX8_sameAsRow 22 = .ok (.aload_n 1, 1) := by decide +kernel
theorem dX8_sameAsRow_23 : decode cX8_sameAsRow 23 = .ok (.getfield 107, 3) := by decide +kernel
theorem dX8_sameAsRow_26 : decode cX8_sameAsRow 26 = .ok (.iload_n 3, 1) := by decide +kernel
theorem dX8_sameAsRow_27 : decode cX8_sameAsRow 27 = .ok (.iaload, 1) := by decide +kernel
theorem dX8_sameAsRow_28 : decode cX8_sameAsRow 28 = .ok (.if_icmp .ne 9, 3) := by decide +kernel
theorem dX8_sameAsRow_31 : decode cX8_sameAsRow 31 = .ok (.iinc 3 1, 3) := by decide +kernel
theorem dX8_sameAsRow_34 : decode cX8_sameAsRow 34 = .ok (.goto (-32), 3) := by decide +kernel
theorem dX8_sameAsRow_37 : decode cX8_sameAsRow 37 = .ok (.iload_n 3, 1) := by decide +kernel
theorem dX8_sameAsRow_38 : decode cX8_sameAsRow 38 = .ok (.ireturn, 1) := by decide +kernel
theorem dX8_nextSeed_0 : decode cX8_nextSeed 0 = .ok (.iload_n 0, 1) := by decide +kernel
theorem dX8_nextSeed_1 : decode cX8_nextSeed 1 = .ok (.ldc 239, 2) := by decide +kernel
theorem dX8_nextSeed_3 : decode cX8_nextSeed 3 = .ok (.imul, 1) := by decide +kernel
theorem dX8_nextSeed_4 : decode cX8_nextSeed 4 = .ok (.ldc 240, 2) := by decide +kernel
theorem dX8_nextSeed_6 : decode cX8_nextSeed 6 = .ok (.iadd, 1) := by decide +kernel
theorem dX8_nextSeed_7 : decode cX8_nextSeed 7 = .ok (.ireturn, 1) := by decide +kernel
theorem dX8_drawn_0 : decode cX8_drawn 0 = .ok (.iload_n 1, 1) := by decide +kernel
theorem dX8_drawn_1 : decode cX8_drawn 1 = .ok (.ifCond .le 16, 3) := by decide +kernel
theorem dX8_drawn_4 : decode cX8_drawn 4 = .ok (.iload_n 0, 1) := by decide +kernel
theorem dX8_drawn_5 : decode cX8_drawn 5 = .ok (.ldc 241, 2) := by decide +kernel
theorem dX8_drawn_7 : decode cX8_drawn 7 = .ok (.iand, 1) := by decide +kernel
theorem dX8_drawn_8 : decode cX8_drawn 8 = .ok (.sipush 256, 3) := by decide +kernel
theorem dX8_drawn_11 : decode cX8_drawn 11 = .ok (.idiv, 1) := by decide +kernel
theorem dX8_drawn_12 : decode cX8_drawn 12 = .ok (.iload_n 1, 1) := by decide +kernel
theorem dX8_drawn_13 : decode cX8_drawn 13 = .ok (.irem, 1) := by decide +kernel
theorem dX8_drawn_14 : decode cX8_drawn 14 = .ok (.goto 4, 3) := by decide +kernel
theorem dX8_drawn_17 : decode cX8_drawn 17 = .ok (.iconst 0, 1) := by decide +kernel
theorem dX8_drawn_18 : decode cX8_drawn 18 = .ok (.ireturn, 1) := by decide +kernel
theorem dX8_isIn_0 : decode cX8_isIn 0 = .ok (.iload_n 0, 1) := by decide +kernel
theorem dX8_isIn_1 : decode cX8_isIn 1 = .ok (.iload_n 1, 1) := by decide +kernel
theorem dX8_isIn_2 : decode cX8_isIn 2 = .ok (.ishr, 1) := by decide +kernel
theorem dX8_isIn_3 : decode cX8_isIn 3 = .ok (.iconst 1, 1) := by decide +kernel
theorem dX8_isIn_4 : decode cX8_isIn 4 = .ok (.iand, 1) := by decide +kernel
theorem dX8_isIn_5 : decode cX8_isIn 5 = .ok (.iconst 1, 1) := by decide +kernel
theorem dX8_isIn_6 : decode cX8_isIn 6 = .ok (.if_icmp .ne 7, 3) := by decide +kernel
theorem dX8_isIn_9 : decode cX8_isIn 9 = .ok (.iconst 1, 1) := by decide +kernel
theorem dX8_isIn_10 : decode cX8_isIn 10 = .ok (.goto 4, 3) := by decide +kernel
theorem dX8_isIn_13 : decode cX8_isIn 13 = .ok (.iconst 0, 1) := by decide +kernel
theorem dX8_isIn_14 : decode cX8_isIn 14 = .ok (.ireturn, 1) := by decide +kernel
theorem dX9_init_0 : decode cX9_init 0 = .ok (.aload_n 0, 1) := by decide +kernel
theorem dX9_init_1 : decode cX9_init 1 = .ok (.invokespecial 1, 3) := by decide +kernel
theorem dX9_init_4 : decode cX9_init 4 = .ok (.aload_n 0, 1) := by decide +kernel
theorem dX9_init_5 : decode cX9_init 5 = .ok (.bipush 7, 2) := by decide +kernel
theorem dX9_init_7 : decode cX9_init 7 = .ok (.newarray .int, 2) := by decide +kernel
theorem dX9_init_9 : decode cX9_init 9 = .ok (.putfield 7, 3) := by decide +kernel
theorem dX9_init_12 : decode cX9_init 12 = .ok (.aload_n 0, 1) := by decide +kernel
theorem dX9_init_13 : decode cX9_init 13 = .ok (.bipush 57, 2) := by decide +kernel
theorem dX9_init_15 : decode cX9_init 15 = .ok (.newarray .int, 2) := by decide +kernel
theorem dX9_init_17 : decode cX9_init 17 = .ok (.putfield 13, 3) := by decide +kernel
theorem dX9_init_20 : decode cX9_init 20 = .ok (.aload_n 0, 1) := by decide +kernel
theorem dX9_init_21 : decode cX9_init 21 = .ok (.bipush 57, 2) := by decide +kernel
theorem dX9_init_23 : decode cX9_init 23 = .ok (.newarray .int, 2) := by decide +kernel
theorem dX9_init_25 : decode cX9_init 25 = .ok (.putfield 16, 3) := by decide +kernel
theorem dX9_init_28 : decode cX9_init 28 = .ok (.aload_n 0, 1) := by decide +kernel
theorem dX9_init_29 : decode cX9_init 29 = .ok (.bipush 57, 2) := by decide +kernel
theorem dX9_init_31 : decode cX9_init 31 = .ok (.newarray .int, 2) := by decide +kernel
theorem dX9_init_33 : decode cX9_init 33 = .ok (.putfield 19, 3) := by decide +kernel
theorem dX9_init_36 : decode cX9_init 36 = .ok (.aload_n 0, 1) := by decide +kernel
theorem dX9_init_37 : decode cX9_init 37 = .ok (.bipush 57, 2) := by decide +kernel
theorem dX9_init_39 : decode cX9_init 39 = .ok (.newarray .int, 2) := by decide +kernel
theorem dX9_init_41 : decode cX9_init 41 = .ok (.putfield 22, 3) := by decide +kernel
theorem dX9_init_44 : decode cX9_init 44 = .ok (.aload_n 0, 1) := by decide +kernel
theorem dX9_init_45 : decode cX9_init 45 = .ok (.bipush 64, 2) := by decide +kernel
theorem dX9_init_47 : decode cX9_init 47 = .ok (.newarray .int, 2) := by decide +kernel
theorem dX9_init_49 : decode cX9_init 49 = .ok (.putfield 25, 3) := by decide +kernel
theorem dX9_init_52 : decode cX9_init 52 = .ok (.aload_n 0, 1) := by decide +kernel
theorem dX9_init_53 : decode cX9_init 53 = .ok (.iconst 3, 1) := by decide +kernel
theorem dX9_init_54 : decode cX9_init 54 = .ok (.newarray .int, 2) := by decide +kernel
theorem dX9_init_56 : decode cX9_init 56 = .ok (.putfield 28, 3) := by decide +kernel
theorem dX9_init_59 : decode cX9_init 59 = .ok (.aload_n 0, 1) := by decide +kernel
theorem dX9_init_60 : decode cX9_init 60 = .ok (.bipush 8, 2) := by decide +kernel
theorem dX9_init_62 : decode cX9_init 62 = .ok (.newarray .int, 2) := by decide +kernel
theorem dX9_init_64 : decode cX9_init 64 = .ok (.putfield 31, 3) := by decide +kernel
theorem dX9_init_67 : decode cX9_init 67 = .ok (.aload_n 0, 1) := by decide +kernel
theorem dX9_init_68 : decode cX9_init 68 = .ok (.getfield 13, 3) := by decide +kernel
theorem dX9_init_71 : decode cX9_init 71 = .ok (.iconst 3, 1) := by decide +kernel
theorem dX9_init_72 : decode cX9_init 72 = .ok (.bipush 20, 2) := by decide +kernel
theorem dX9_init_74 : decode cX9_init 74 = .ok (.iastore, 1) := by decide +kernel
theorem dX9_init_75 : decode cX9_init 75 = .ok (.return_, 1) := by decide +kernel
theorem dX9_refuse_0 : decode cX9_refuse 0 = .ok (.aload_n 0, 1) := by decide +kernel
theorem dX9_refuse_1 : decode cX9_refuse 1 = .ok (.getfield 7, 3) := by decide +kernel
theorem dX9_refuse_4 : decode cX9_refuse 4 = .ok (.iload_n 1, 1) := by decide +kernel
theorem dX9_refuse_5 : decode cX9_refuse 5 = .ok (.ineg, 1) := by decide +kernel
theorem dX9_refuse_6 : decode cX9_refuse 6 = .ok (.dup2, 1) := by decide +kernel
theorem dX9_refuse_7 : decode cX9_refuse 7 = .ok (.iaload, 1) := by decide +kernel
theorem dX9_refuse_8 : decode cX9_refuse 8 = .ok (.iconst 1, 1) := by decide +kernel
theorem dX9_refuse_9 : decode cX9_refuse 9 = .ok (.iadd, 1) := by decide +kernel
theorem dX9_refuse_10 : decode cX9_refuse 10 = .ok (.iastore, 1) := by decide +kernel
theorem dX9_refuse_11 : decode cX9_refuse 11 = .ok (.iload_n 1, 1) := by decide +kernel
theorem dX9_refuse_12 : decode cX9_refuse 12 = .ok (.ireturn, 1) := by decide +kernel
theorem dX9_isIn_0 : decode cX9_isIn 0 = .ok (.iload_n 0, 1) := by decide +kernel
theorem dX9_isIn_1 : decode cX9_isIn 1 = .ok (.ifCond .lt 12, 3) := by decide +kernel
theorem dX9_isIn_4 : decode cX9_isIn 4 = .ok (.iload_n 0, 1) := by decide +kernel
theorem dX9_isIn_5 : decode cX9_isIn 5 = .ok (.iload_n 1, 1) := by decide +kernel
theorem dX9_isIn_6 : decode cX9_isIn 6 = .ok (.if_icmp .ge 7, 3) := by decide +kernel
theorem dX9_isIn_9 : decode cX9_isIn 9 = .ok (.iconst 1, 1) := by decide +kernel
theorem dX9_isIn_10 : decode cX9_isIn 10 = .ok (.goto 4, 3) := by decide +kernel
theorem dX9_isIn_13 : decode cX9_isIn 13 = .ok (.iconst 0, 1) := by decide +kernel
theorem dX9_isIn_14 : decode cX9_isIn 14 = .ok (.ireturn, 1) := by decide +kernel
theorem dX9_within_0 : decode cX9_within 0 = .ok (.iload_n 0, 1) := by decide +kernel
theorem dX9_within_1 : decode cX9_within 1 = .ok (.iload_n 1, 1) := by decide +kernel
theorem dX9_within_2 : decode cX9_within 2 = .ok (.if_icmp .ge 8, 3) := by decide +kernel
theorem dX9_within_5 : decode cX9_within 5 = .ok (.bipush (-4), 2) := by decide +kernel
theorem dX9_within_7 : decode cX9_within 7 = .ok (.goto 14, 3) := by decide +kernel
theorem dX9_within_10 : decode cX9_within 10 = .ok (.iload_n 0, 1) := by decide +kernel
theorem dX9_within_11 : decode cX9_within 11 = .ok (.iload_n 2, 1) := by decide +kernel
theorem dX9_within_12 : decode cX9_within 12 = .ok (.if_icmp .le 8, 3) := by decide +kernel
theorem dX9_within_15 : decode cX9_within 15 = .ok (.bipush (-6), 2) := by decide +kernel
theorem dX9_within_17 : decode cX9_within 17 = .ok (.goto 4, 3) := by decide +kernel
theorem dX9_within_20 : decode cX9_within 20 = .ok (.iconst 0, 1) := by decide +kernel
theorem dX9_within_21 : decode cX9_within 21 = .ok (.ireturn, 1) := by decide +kernel
theorem dX9_amount_0 : decode cX9_amount 0 = .ok (.iload_n 0, 1) := by decide +kernel
theorem dX9_amount_1 : decode cX9_amount 1 = .ok (.ifCond .ge 8, 3) := by decide +kernel
theorem dX9_amount_4 : decode cX9_amount 4 = .ok (.iload_n 0, 1) := by decide +kernel
theorem dX9_amount_5 : decode cX9_amount 5 = .ok (.ineg, 1) := by decide +kernel
theorem dX9_amount_6 : decode cX9_amount 6 = .ok (.goto 4, 3) := by decide +kernel
theorem dX9_amount_9 : decode cX9_amount 9 = .ok (.iload_n 0, 1) := by decide +kernel
theorem dX9_amount_10 : decode cX9_amount 10 = .ok (.ireturn, 1) := by decide +kernel
theorem dX9_lays_0 : decode cX9_lays 0 = .ok (.iconst 0, 1) := by decide +kernel
theorem dX9_lays_1 : decode cX9_lays 1 = .ok (.istore_n 2, 1) := by decide +kernel
theorem dX9_lays_2 : decode cX9_lays 2 = .ok (.iload_n 2, 1) := by decide +kernel
theorem dX9_lays_3 : decode cX9_lays 3 = .ok (.bipush 57, 2) := by decide +kernel
theorem dX9_lays_5 : decode cX9_lays 5 = .ok (.if_icmp .ge 15, 3) := by decide +kernel
theorem dX9_lays_8 : decode cX9_lays 8 = .ok (.aload_n 1, 1) := by decide +kernel
theorem dX9_lays_9 : decode cX9_lays 9 = .ok (.iload_n 2, 1) := by decide +kernel
theorem dX9_lays_10 : decode cX9_lays 10 = .ok (.aload_n 0, 1) := by decide +kernel
theorem dX9_lays_11 : decode cX9_lays 11 = .ok (.iload_n 2, 1) := by decide +kernel
theorem dX9_lays_12 : decode cX9_lays 12 = .ok (.iaload, 1) := by decide +kernel
theorem dX9_lays_13 : decode cX9_lays 13 = .ok (.iastore, 1) := by decide +kernel
theorem dX9_lays_14 : decode cX9_lays 14 = .ok (.iinc 2 1, 3) := by decide +kernel
theorem dX9_lays_17 : decode cX9_lays 17 = .ok (.goto (-15), 3) := by decide +kernel
theorem dX9_lays_20 : decode cX9_lays 20 = .ok (.return_, 1) := by decide +kernel
theorem dX9_begins_0 : decode cX9_begins 0 = .ok (.aload_n 0, 1) := by decide +kernel
theorem dX9_begins_1 : decode cX9_begins 1 = .ok (.getfield 13, 3) := by decide +kernel
theorem dX9_begins_4 : decode cX9_begins 4 = .ok (.aload_n 0, 1) := by decide +kernel
theorem dX9_begins_5 : decode cX9_begins 5 = .ok (.getfield 22, 3) := by decide +kernel
theorem dX9_begins_8 : decode cX9_begins 8 = .ok (.invokestatic 34, 3) := by decide +kernel
theorem dX9_begins_11 : decode cX9_begins 11 = .ok (.return_, 1) := by decide +kernel
theorem dX9_ends_0 : decode cX9_ends 0 = .ok (.aload_n 0, 1) := by decide +kernel
theorem dX9_ends_1 : decode cX9_ends 1 = .ok (.getfield 22, 3) := by decide +kernel
theorem dX9_ends_4 : decode cX9_ends 4 = .ok (.aload_n 0, 1) := by decide +kernel
theorem dX9_ends_5 : decode cX9_ends 5 = .ok (.getfield 13, 3) := by decide +kernel
theorem dX9_ends_8 : decode cX9_ends 8 = .ok (.invokestatic 34, 3) := by decide +kernel
theorem dX9_ends_11 : decode cX9_ends 11 = .ok (.return_, 1) := by decide +kernel
theorem dX9_isLoft_0 : decode cX9_isLoft 0 = .ok (.iload_n 1, 1) := by decide +kernel
theorem dX9_isLoft_1 : decode cX9_isLoft 1 = .ok (.aload_n 0, 1) := by decide +kernel
theorem dX9_isLoft_2 : decode cX9_isLoft 2 = .ok (.getfield 13, 3) := by decide +kernel
theorem dX9_isLoft_5 : decode cX9_isLoft 5 = .ok (.iconst 0, 1) := by decide +kernel
theorem dX9_isLoft_6 : decode cX9_isLoft 6 = .ok (.iaload, 1) := by decide +kernel
theorem dX9_isLoft_7 : decode cX9_isLoft 7 = .ok (.invokestatic 38, 3) := by decide +kernel
theorem dX9_isLoft_10 : decode cX9_isLoft 10 = .ok (.ireturn, 1) := by decide +kernel
theorem dX9_isDove_0 : decode cX9_isDove 0 = .ok (.iload_n 1, 1) := by decide +kernel
theorem dX9_isDove_1 : decode cX9_isDove 1 = .ok (.aload_n 0, 1) := by decide +kernel
theorem dX9_isDove_2 : decode cX9_isDove 2 = .ok (.getfield 13, 3) := by decide +kernel
theorem dX9_isDove_5 : decode cX9_isDove 5 = .ok (.iconst 1, 1) := by decide +kernel
theorem dX9_isDove_6 : decode cX9_isDove 6 = .ok (.iaload, 1) := by decide +kernel
theorem dX9_isDove_7 : decode cX9_isDove 7 = .ok (.invokestatic 38, 3) := by decide +kernel
theorem dX9_isDove_10 : decode cX9_isDove 10 = .ok (.ireturn, 1) := by decide +kernel
theorem dX9_get_0 : decode cX9_get 0 = .ok (.aload_n 0, 1) := by decide +kernel
theorem dX9_get_1 : decode cX9_get 1 = .ok (.getfield 13, 3) := by decide +kernel
theorem dX9_get_4 : decode cX9_get 4 = .ok (.bipush 17, 2) := by decide +kernel
theorem dX9_get_6 : decode cX9_get 6 = .ok (.iconst 5, 1) := by decide +kernel
theorem dX9_get_7 : decode cX9_get 7 = .ok (.iload_n 1, 1) := by decide +kernel
theorem dX9_get_8 : decode cX9_get 8 = .ok (.imul, 1) := by decide +kernel
theorem dX9_get_9 : decode cX9_get 9 = .ok (.iadd, 1) := by decide +kernel
theorem dX9_get_10 : decode cX9_get 10 = .ok (.iload_n 2, 1) := by decide +kernel
theorem dX9_get_11 : decode cX9_get 11 = .ok (.iadd, 1) := by decide +kernel
theorem dX9_get_12 : decode cX9_get 12 = .ok (.iaload, 1) := by decide +kernel
theorem dX9_get_13 : decode cX9_get 13 = .ok (.ireturn, 1) := by decide +kernel
theorem dX9_puts_0 : decode cX9_puts 0 = .ok (.aload_n 0, 1) := by decide +kernel
theorem dX9_puts_1 : decode cX9_puts 1 = .ok (.getfield 13, 3) := by decide +kernel
theorem dX9_puts_4 : decode cX9_puts 4 = .ok (.bipush 17, 2) := by decide +kernel
theorem dX9_puts_6 : decode cX9_puts 6 = .ok (.iconst 5, 1) := by decide +kernel
theorem dX9_puts_7 : decode cX9_puts 7 = .ok (.iload_n 1, 1) := by decide +kernel
theorem dX9_puts_8 : decode cX9_puts 8 = .ok (.imul, 1) := by decide +kernel
theorem dX9_puts_9 : decode cX9_puts 9 = .ok (.iadd, 1) := by decide +kernel
theorem dX9_puts_10 : decode cX9_puts 10 = .ok (.iload_n 2, 1) := by decide +kernel
theorem dX9_puts_11 : decode cX9_puts 11 = .ok (.iadd, 1) := by decide +kernel
theorem dX9_puts_12 : decode cX9_puts 12 = .ok (.iload_n 3, 1) := by decide +kernel
theorem dX9_puts_13 : decode cX9_puts 13 = .ok (.iastore, 1) := by decide +kernel
theorem dX9_puts_14 : decode cX9_puts 14 = .ok (.return_, 1) := by decide +kernel
theorem dX9_isLost_0 : decode cX9_isLost 0 = .ok (.aload_n 0, 1) := by decide +kernel
theorem dX9_isLost_1 : decode cX9_isLost 1 = .ok (.iload_n 1, 1) := by decide +kernel
theorem dX9_isLost_2 : decode cX9_isLost 2 = .ok (.iconst 3, 1) := by decide +kernel
theorem dX9_isLost_3 : decode cX9_isLost 3 = .ok (.invokevirtual 42, 3) := by decide +kernel
theorem dX9_isLost_6 : decode cX9_isLost 6 = .ok (.bipush 9, 2) := by decide +kernel
theorem dX9_isLost_8 : decode cX9_isLost 8 = .ok (.if_icmp .ne 7, 3) := by decide +kernel
theorem dX9_isLost_11 : decode cX9_isLost 11 = .ok (.iconst 1, 1) := by decide +kernel
theorem dX9_isLost_12 : decode cX9_isLost 12 = .ok (.goto 4, 3) := by decide +kernel
theorem dX9_isLost_15 : decode cX9_isLost 15 = .ok (.iconst 0, 1) := by decide +kernel
theorem dX9_isLost_16 : decode cX9_isLost 16 = .ok (.ireturn, 1) := by decide +kernel
theorem dX9_letter_0 : decode cX9_letter 0 = .ok (.iload_n 1, 1) := by decide +kernel
theorem dX9_letter_1 : decode cX9_letter 1 = .ok (.iconst 0, 1) := by decide +kernel
theorem dX9_letter_2 : decode cX9_letter 2 = .ok (.sipush 255, 3) := by decide +kernel
theorem dX9_letter_5 : decode cX9_letter 5 = .ok (.invokestatic 46, 3) := by decide +kernel
theorem dX9_letter_8 : decode cX9_letter 8 = .ok (.istore_n 2, 1) := by decide +kernel
theorem dX9_letter_9 : decode cX9_letter 9 = .ok (.iload_n 2, 1) := by decide +kernel
theorem dX9_letter_10 : decode cX9_letter 10 = .ok (.ifCond .ne 15, 3) := by decide +kernel
theorem dX9_letter_13 : decode cX9_letter 13 = .ok (.aload_n 0, 1) := by decide +kernel
theorem dX9_letter_14 : decode cX9_letter 14 = .ok (.getfield 50, 3) := by decide +kernel
theorem dX9_letter_17 : decode cX9_letter 17 = .ok (.bipush 64, 2) := by decide +kernel
theorem dX9_letter_19 : decode cX9_letter 19 = .ok (.if_icmp .ne 6, 3) := by decide +kernel
theorem dX9_letter_22 : decode cX9_letter 22 = .ok (.bipush (-6), 2) := by decide +kernel
theorem dX9_letter_24 : decode cX9_letter 24 = .ok (.istore_n 2, 1) := by decide +kernel
theorem dX9_letter_25 : decode cX9_letter 25 = .ok (.iload_n 2, 1) := by decide +kernel
theorem dX9_letter_26 : decode cX9_letter 26 = .ok (.ifCond .eq 9, 3) := by decide +kernel
theorem dX9_letter_29 : decode cX9_letter 29 = .ok (.aload_n 0, 1) := by decide +kernel
theorem dX9_letter_30 : decode cX9_letter 30 = .ok (.iload_n 2, 1) := by decide +kernel
theorem dX9_letter_31 : decode cX9_letter 31 = .ok (.invokevirtual 54, 3) := by decide +kernel
theorem dX9_letter_34 : decode cX9_letter 34 = .ok (.ireturn, 1) := by decide +kernel
theorem dX9_letter_35 : decode cX9_letter 35 = .ok (.aload_n 0, 1) := by decide +kernel
theorem dX9_letter_36 : decode cX9_letter 36 = .ok (.getfield 25, 3) := by decide +kernel
theorem dX9_letter_39 : decode cX9_letter 39 = .ok (.aload_n 0, 1) := by decide +kernel
theorem dX9_letter_40 : decode cX9_letter 40 = .ok (.getfield 50, 3) := by decide +kernel
theorem dX9_letter_43 : decode cX9_letter 43 = .ok (.iload_n 1, 1) := by decide +kernel
theorem dX9_letter_44 : decode cX9_letter 44 = .ok (.iastore, 1) := by decide +kernel
theorem dX9_letter_45 : decode cX9_letter 45 = .ok (.aload_n 0, 1) := by decide +kernel
theorem dX9_letter_46 : decode cX9_letter 46 = .ok (.dup, 1) := by decide +kernel
theorem dX9_letter_47 : decode cX9_letter 47 = .ok (.getfield 50, 3) := by decide +kernel
theorem dX9_letter_50 : decode cX9_letter 50 = .ok (.iconst 1, 1) := by decide +kernel
theorem dX9_letter_51 : decode cX9_letter 51 = .ok (.iadd, 1) := by decide +kernel
theorem dX9_letter_52 : decode cX9_letter 52 = .ok (.putfield 50, 3) := by decide +kernel
theorem dX9_letter_55 : decode cX9_letter 55 = .ok (.aload_n 0, 1) := by decide +kernel
theorem dX9_letter_56 : decode cX9_letter 56 = .ok (.getfield 50, 3) := by decide +kernel
theorem dX9_letter_59 : decode cX9_letter 59 = .ok (.ireturn, 1) := by decide +kernel
theorem dX9_sign_0 : decode cX9_sign 0 = .ok (.aload_n 0, 1) := by decide +kernel
theorem dX9_sign_1 : decode cX9_sign 1 = .ok (.getfield 58, 3) := by decide +kernel
theorem dX9_sign_4 : decode cX9_sign 4 = .ok (.aload_n 0, 1) := by decide +kernel
theorem dX9_sign_5 : decode cX9_sign 5 = .ok (.getfield 50, 3) := by decide +kernel
theorem dX9_sign_8 : decode cX9_sign 8 = .ok (.if_icmp .ge 15, 3) := by decide +kernel
theorem dX9_sign_11 : decode cX9_sign 11 = .ok (.aload_n 0, 1) := by decide +kernel
theorem dX9_sign_12 : decode cX9_sign 12 = .ok (.getfield 25, 3) := by decide +kernel
theorem dX9_sign_15 : decode cX9_sign 15 = .ok (.aload_n 0, 1) := by decide +kernel
theorem dX9_sign_16 : decode cX9_sign 16 = .ok (.getfield 58, 3) := by decide +kernel
theorem dX9_sign_19 : decode cX9_sign 19 = .ok (.iaload, 1) := by decide +kernel
theorem dX9_sign_20 : decode cX9_sign 20 = .ok (.goto 4, 3) := by decide +kernel
theorem dX9_sign_23 : decode cX9_sign 23 = .ok (.iconst (-1), 1) := by decide +kernel
theorem dX9_sign_24 : decode cX9_sign 24 = .ok (.ireturn, 1) := by decide +kernel
theorem dX9_takes_0 : decode cX9_takes 0 = .ok (.aload_n 0, 1) := by decide +kernel
theorem dX9_takes_1 : decode cX9_takes 1 = .ok (.invokevirtual 61, 3) := by decide +kernel
theorem dX9_takes_4 : decode cX9_takes 4 = .ok (.iload_n 1, 1) := by decide +kernel
theorem dX9_takes_5 : decode cX9_takes 5 = .ok (.if_icmp .eq 5, 3) := by decide +kernel
theorem dX9_takes_8 : decode cX9_takes 8 = .ok (.iconst 0, 1) := by decide +kernel
theorem dX9_takes_9 : decode cX9_takes 9 = .ok (.ireturn, 1) := by decide +kernel
theorem dX9_takes_10 : decode cX9_takes 10 = .ok (.aload_n 0, 1) := by decide +kernel
theorem dX9_takes_11 : decode cX9_takes 11 = .ok (.dup, 1) := by decide +kernel
theorem dX9_takes_12 : decode cX9_takes 12 = .ok (.getfield 58, 3) := by decide +kernel
theorem dX9_takes_15 : decode cX9_takes 15 = .ok (.iconst 1, 1) := by decide +kernel
theorem dX9_takes_16 : decode cX9_takes 16 = .ok (.iadd, 1) := by decide +kernel
theorem dX9_takes_17 : decode cX9_takes 17 = .ok (.putfield 58, 3) := by decide +kernel
theorem dX9_takes_20 : decode cX9_takes 20 = .ok (.iconst 1, 1) := by decide +kernel
theorem dX9_takes_21 : decode cX9_takes 21 = .ok (.ireturn, 1) := by decide +kernel
theorem dX9_readsNumber_0 : decode cX9_readsNumber 0 = .ok (.aload_n 0, 1) := by decide +kernel
theorem dX9_readsNumber_1 : decode cX9_readsNumber 1 = .ok (.getfield 28, 3) := by decide +kernel
theorem dX9_readsNumber_4 : decode cX9_readsNumber 4 = .ok (.iload_n 1, 1) := by decide +kernel
theorem dX9_readsNumber_5 : decode cX9_readsNumber 5 = .ok (.iconst 0, 1) := by decide +kernel
theorem dX9_readsNumber_6 : decode cX9_readsNumber 6 = .ok (.iastore, 1) := by decide +kernel
theorem dX9_readsNumber_7 : decode cX9_readsNumber 7 = .ok (.iconst 0, 1) := by decide +kernel
theorem dX9_readsNumber_8 : decode cX9_readsNumber 8 = .ok (.istore_n 3, 1) := by decide +kernel
theorem dX9_readsNumber_9 : decode cX9_readsNumber 9 = .ok (.iload_n 3, 1) := by decide +kernel
theorem dX9_readsNumber_10 : decode cX9_readsNumber 10 = .ok (.iload_n 2, 1) := by decide +kernel
theorem dX9_readsNumber_11 : decode cX9_readsNumber 11 = .ok (.if_icmp .ge 57, 3) := by decide +kernel
theorem dX9_readsNumber_14 : decode cX9_readsNumber 14 = .ok (.aload_n 0, 1) := by decide +kernel
theorem dX9_readsNumber_15 : decode cX9_readsNumber 15 = .ok (.invokevirtual 61, 3) := by decide +kernel
theorem dX9_readsNumber_18 : decode cX9_readsNumber 18 = .ok (.bipush 48, 2) := by decide +kernel
theorem dX9_readsNumber_20 : decode cX9_readsNumber 20 = .ok (.isub, 1) := by decide +kernel
theorem dX9_readsNumber_21 : decode cX9_readsNumber 21 = .ok (.bipush 10, 2) := by decide +kernel
theorem dX9_readsNumber_23 : decode cX9_readsNumber 23 = .ok (.invokestatic 38, 3) := by decide +kernel
theorem dX9_readsNumber_26 : decode cX9_readsNumber 26 = .ok (.ifCond .eq 42, 3) := by decide +kernel
theorem dX9_readsNumber_29 : decode cX9_readsNumber 29 = .ok (.aload_n 0, 1) := by decide +kernel
theorem dX9_readsNumber_30 : decode cX9_readsNumber 30 = .ok (.getfield 28, 3) := by decide +kernel
theorem dX9_readsNumber_33 : decode cX9_readsNumber 33 = .ok (.iload_n 1, 1) := by decide +kernel
theorem dX9_readsNumber_34 : decode cX9_readsNumber 34 = .ok (.bipush 10, 2) := by decide +kernel
theorem dX9_readsNumber_36 : decode cX9_readsNumber 36 = .ok (.aload_n 0, 1) := by decide +kernel
theorem dX9_readsNumber_37 : decode cX9_readsNumber 37 = .ok (.getfield 28, 3) := by decide +kernel
theorem dX9_readsNumber_40 : decode cX9_readsNumber 40 = .ok (.iload_n 1, 1) := by decide +kernel
theorem dX9_readsNumber_41 : decode cX9_readsNumber 41 = .ok (.iaload, 1) := by decide +kernel
theorem dX9_readsNumber_42 : decode cX9_readsNumber 42 = .ok (.imul, 1) := by decide +kernel
theorem dX9_readsNumber_43 : decode cX9_readsNumber 43 = .ok (.aload_n 0, 1) := by decide +kernel
theorem dX9_readsNumber_44 : decode cX9_readsNumber 44 = .ok (.invokevirtual 61, 3) := by decide +kernel
theorem dX9_readsNumber_47 : decode cX9_readsNumber 47 = .ok (.iadd, 1) := by decide +kernel
theorem dX9_readsNumber_48 : decode cX9_readsNumber 48 = .ok (.bipush 48, 2) := by decide +kernel
theorem dX9_readsNumber_50 : decode cX9_readsNumber 50 = .ok (.isub, 1) := by decide +kernel
theorem dX9_readsNumber_51 : decode cX9_readsNumber 51 = .ok (.iastore, 1) := by decide +kernel
theorem dX9_readsNumber_52 : decode cX9_readsNumber 52 = .ok (.aload_n 0, 1) := by decide +kernel
theorem dX9_readsNumber_53 : decode cX9_readsNumber 53 = .ok (.dup, 1) := by decide +kernel
theorem dX9_readsNumber_54 : decode cX9_readsNumber 54 = .ok (.getfield 58, 3) := by decide +kernel
theorem dX9_readsNumber_57 : decode cX9_readsNumber 57 = .ok (.iconst 1, 1) := by decide +kernel
theorem dX9_readsNumber_58 : decode cX9_readsNumber 58 = .ok (.iadd, 1) := by decide +kernel
theorem dX9_readsNumber_59 : decode cX9_readsNumber 59 = .ok (.putfield 58, 3) := by decide +kernel
theorem dX9_readsNumber_62 : decode cX9_readsNumber 62 = .ok (.iinc 3 1, 3) := by decide +kernel
theorem dX9_readsNumber_65 : decode cX9_readsNumber 65 = .ok (.goto (-56), 3) := by decide +kernel
theorem dX9_readsNumber_68 : decode cX9_readsNumber 68 = .ok (.iload_n 3, 1) := by decide +kernel
theorem dX9_readsNumber_69 : decode cX9_readsNumber 69 = .ok (.ifCond .le 7, 3) := by decide +kernel
theorem dX9_readsNumber_72 : decode cX9_readsNumber 72 = .ok (.iconst 1, 1) := by decide +kernel
theorem dX9_readsNumber_73 : decode cX9_readsNumber 73 = .ok (.goto 4, 3) := by decide +kernel
theorem dX9_readsNumber_76 : decode cX9_readsNumber 76 = .ok (.iconst 0, 1) := by decide +kernel
theorem dX9_readsNumber_77 : decode cX9_readsNumber 77 = .ok (.ireturn, 1) := by decide +kernel
theorem dX9_kindOf_0 : decode cX9_kindOf 0 = .ok (.iload_n 0, 1) := by decide +kernel
theorem dX9_kindOf_1 : decode cX9_kindOf 1 = .ok (.lookupswitch 71 #[(98, 67), (100, 59), (111, 61), (115, 65), (116, 69), (121, 63)], 59) := by decide +kernel
theorem dX9_kindOf_60 : decode cX9_kindOf 60 = .ok (.iconst 0, 1) := by decide +kernel
theorem dX9_kindOf_61 : decode cX9_kindOf 61 = .ok (.ireturn, 1) := by decide +kernel
theorem dX9_kindOf_62 : decode cX9_kindOf 62 = .ok (.iconst 1, 1) := by decide +kernel
theorem dX9_kindOf_63 : decode cX9_kindOf 63 = .ok (.ireturn, 1) := by decide +kernel
theorem dX9_kindOf_64 : decode cX9_kindOf 64 = .ok (.iconst 2, 1) := by decide +kernel
theorem dX9_kindOf_65 : decode cX9_kindOf 65 = .ok (.ireturn, 1) := by decide +kernel
theorem dX9_kindOf_66 : decode cX9_kindOf 66 = .ok (.iconst 3, 1) := by decide +kernel
theorem dX9_kindOf_67 : decode cX9_kindOf 67 = .ok (.ireturn, 1) := by decide +kernel
theorem dX9_kindOf_68 : decode cX9_kindOf 68 = .ok (.iconst 4, 1) := by decide +kernel
theorem dX9_kindOf_69 : decode cX9_kindOf 69 = .ok (.ireturn, 1) := by decide +kernel
theorem dX9_kindOf_70 : decode cX9_kindOf 70 = .ok (.iconst 5, 1) := by decide +kernel
theorem dX9_kindOf_71 : decode cX9_kindOf 71 = .ok (.ireturn, 1) := by decide +kernel
theorem dX9_kindOf_72 : decode cX9_kindOf 72 = .ok (.bipush (-9), 2) := by decide +kernel
theorem dX9_kindOf_74 : decode cX9_kindOf 74 = .ok (.ireturn, 1) := by decide +kernel
theorem dX9_readsKind_0 : decode cX9_readsKind 0 = .ok (.aload_n 0, 1) := by decide +kernel
theorem dX9_readsKind_1 : decode cX9_readsKind 1 = .ok (.getfield 28, 3) := by decide +kernel
theorem dX9_readsKind_4 : decode cX9_readsKind 4 = .ok (.iconst 0, 1) := by decide +kernel
theorem dX9_readsKind_5 : decode cX9_readsKind 5 = .ok (.aload_n 0, 1) := by decide +kernel
theorem dX9_readsKind_6 : decode cX9_readsKind 6 = .ok (.invokevirtual 61, 3) := by decide +kernel
theorem dX9_readsKind_9 : decode cX9_readsKind 9 = .ok (.invokestatic 65, 3) := by decide +kernel
theorem dX9_readsKind_12 : decode cX9_readsKind 12 = .ok (.iastore, 1) := by decide +kernel
theorem dX9_readsKind_13 : decode cX9_readsKind 13 = .ok (.aload_n 0, 1) := by decide +kernel
theorem dX9_readsKind_14 : decode cX9_readsKind 14 = .ok (.getfield 28, 3) := by decide +kernel
theorem dX9_readsKind_17 : decode cX9_readsKind 17 = .ok (.iconst 0, 1) := by decide +kernel
theorem dX9_readsKind_18 : decode cX9_readsKind 18 = .ok (.iaload, 1) := by decide +kernel
theorem dX9_readsKind_19 : decode cX9_readsKind 19 = .ok (.ifCond .ge 5, 3) := by decide +kernel
theorem dX9_readsKind_22 : decode cX9_readsKind 22 = .ok (.iconst 0, 1) := by decide +kernel
theorem dX9_readsKind_23 : decode cX9_readsKind 23 = .ok (.ireturn, 1) := by decide +kernel
theorem dX9_readsKind_24 : decode cX9_readsKind 24 = .ok (.aload_n 0, 1) := by decide +kernel
theorem dX9_readsKind_25 : decode cX9_readsKind 25 = .ok (.dup, 1) := by decide +kernel
theorem dX9_readsKind_26 : decode cX9_readsKind 26 = .ok (.getfield 58, 3) := by decide +kernel
theorem dX9_readsKind_29 : decode cX9_readsKind 29 = .ok (.iconst 1, 1) := by decide +kernel
theorem dX9_readsKind_30 : decode cX9_readsKind 30 = .ok (.iadd, 1) := by decide +kernel
theorem dX9_readsKind_31 : decode cX9_readsKind 31 = .ok (.putfield 58, 3) := by decide +kernel
theorem dX9_readsKind_34 : decode cX9_readsKind 34 = .ok (.iconst 1, 1) := by decide +kernel
theorem dX9_readsKind_35 : decode cX9_readsKind 35 = .ok (.ireturn, 1) := by decide +kernel
theorem dX9_readsStatement_0 : decode cX9_readsStatement 0 = .ok (.aload_n 0, 1) := by decide +kernel
theorem dX9_readsStatement_1 : decode cX9_readsStatement 1 = .ok (.invokevirtual 61, 3) := by decide +kernel
theorem dX9_readsStatement_4 : decode cX9_readsStatement 4 = .ok (.istore_n 1, 1) := by decide +kernel
theorem dX9_readsStatement_5 : decode cX9_readsStatement 5 = .ok (.iconst 0, 1) := by decide +kernel
theorem dX9_readsStatement_6 : decode cX9_readsStatement 6 = .ok (.istore_n 2, 1) := by decide +kernel
theorem dX9_readsStatement_7 : decode cX9_readsStatement 7 = .ok (.aload_n 0, 1) := by decide +kernel
theorem dX9_readsStatement_8 : decode cX9_readsStatement 8 = .ok (.dup, 1) := by decide +kernel
theorem dX9_readsStatement_9 : decode cX9_readsStatement 9 = .ok (.getfield 58, 3) := by decide +kernel
theorem dX9_readsStatement_12 : decode cX9_readsStatement 12 = .ok (.iconst 1, 1) := by decide +kernel
theorem dX9_readsStatement_13 : decode cX9_readsStatement 13 = .ok (.iadd, 1) := by decide +kernel
theorem dX9_readsStatement_14 : decode cX9_readsStatement 14 = .ok (.putfield 58, 3) := by decide +kernel
theorem dX9_readsStatement_17 : decode cX9_readsStatement 17 = .ok (.iload_n 1, 1) := by decide +kernel
theorem dX9_readsStatement_18 : decode cX9_readsStatement 18 = .ok (.lookupswitch 123 #[(100, 69), (104, 113), (108, 42), (111, 103)], 42) := by decide +kernel
theorem dX9_readsStatement_60 : decode cX9_readsStatement 60 = .ok (.aload_n 0, 1) := by decide +kernel
theorem dX9_readsStatement_61 : decode cX9_readsStatement 61 = .ok (.iconst 0, 1) := by decide +kernel
theorem dX9_readsStatement_62 : decode cX9_readsStatement 62 = .ok (.iconst 1, 1) := by decide +kernel
theorem dX9_readsStatement_63 : decode cX9_readsStatement 63 = .ok (.invokevirtual 68, 3) := by decide +kernel
theorem dX9_readsStatement_66 : decode cX9_readsStatement 66 = .ok (.ifCond .eq 16, 3) := by decide +kernel
theorem dX9_readsStatement_69 : decode cX9_readsStatement 69 = .ok (.aload_n 0, 1) := by decide +kernel
theorem dX9_readsStatement_70 : decode cX9_readsStatement 70 = .ok (.iconst 1, 1) := by decide +kernel
theorem dX9_readsStatement_71 : decode cX9_readsStatement 71 = .ok (.iconst 1, 1) := by decide +kernel
theorem dX9_readsStatement_72 : decode cX9_readsStatement 72 = .ok (.invokevirtual 68, 3) := by decide +kernel
theorem dX9_readsStatement_75 : decode cX9_readsStatement 75 = .ok (.ifCond .eq 7, 3) := by decide +kernel
theorem dX9_readsStatement_78 : decode cX9_readsStatement 78 = .ok (.iconst 1, 1) := by decide +kernel
theorem dX9_readsStatement_79 : decode cX9_readsStatement 79 = .ok (.goto 4, 3) := by decide +kernel
theorem dX9_readsStatement_82 : decode cX9_readsStatement 82 = .ok (.iconst 0, 1) := by decide +kernel
theorem dX9_readsStatement_83 : decode cX9_readsStatement 83 = .ok (.istore_n 2, 1) := by decide +kernel
theorem dX9_readsStatement_84 : decode cX9_readsStatement 84 = .ok (.goto 69, 3) := by decide +kernel
theorem dX9_readsStatement_87 : decode cX9_readsStatement 87 = .ok (.aload_n 0, 1) := by decide +kernel
theorem dX9_readsStatement_88 : decode cX9_readsStatement 88 = .ok (.invokevirtual 71, 3) := by decide +kernel
theorem dX9_readsStatement_91 : decode cX9_readsStatement 91 = .ok (.ifCond .eq 25, 3) := by decide +kernel
theorem dX9_readsStatement_94 : decode cX9_readsStatement 94 = .ok (.aload_n 0, 1) := by decide +kernel
theorem dX9_readsStatement_95 : decode cX9_readsStatement 95 = .ok (.iconst 1, 1) := by decide +kernel
theorem dX9_readsStatement_96 : decode cX9_readsStatement 96 = .ok (.iconst 1, 1) := by decide +kernel
theorem dX9_readsStatement_97 : decode cX9_readsStatement 97 = .ok (.invokevirtual 68, 3) := by decide +kernel
theorem dX9_readsStatement_100 : decode cX9_readsStatement 100 = .ok (.ifCond .eq 16, 3) := by decide +kernel
theorem dX9_readsStatement_103 : decode cX9_readsStatement 103 = .ok (.aload_n 0, 1) := by decide +kernel
theorem dX9_readsStatement_104 : decode cX9_readsStatement 104 = .ok (.iconst 2, 1) := by decide +kernel
theorem dX9_readsStatement_105 : decode cX9_readsStatement 105 = .ok (.iconst 1, 1) := by decide +kernel
theorem dX9_readsStatement_106 : decode cX9_readsStatement 106 = .ok (.invokevirtual 68, 3) := by decide +kernel
theorem dX9_readsStatement_109 : decode cX9_readsStatement 109 = .ok (.ifCond .eq 7, 3) := by decide +kernel
theorem dX9_readsStatement_112 : decode cX9_readsStatement 112 = .ok (.iconst 1, 1) := by decide +kernel
theorem dX9_readsStatement_113 : decode cX9_readsStatement 113 = .ok (.goto 4, 3) := by decide +kernel
theorem dX9_readsStatement_116 : decode cX9_readsStatement 116 = .ok (.iconst 0, 1) := by decide +kernel
theorem dX9_readsStatement_117 : decode cX9_readsStatement 117 = .ok (.istore_n 2, 1) := by decide +kernel
theorem dX9_readsStatement_118 : decode cX9_readsStatement 118 = .ok (.goto 35, 3) := by decide +kernel
theorem dX9_readsStatement_121 : decode cX9_readsStatement 121 = .ok (.aload_n 0, 1) := by decide +kernel
theorem dX9_readsStatement_122 : decode cX9_readsStatement 122 = .ok (.iconst 0, 1) := by decide +kernel
theorem dX9_readsStatement_123 : decode cX9_readsStatement 123 = .ok (.iconst 1, 1) := by decide +kernel
theorem dX9_readsStatement_124 : decode cX9_readsStatement 124 = .ok (.invokevirtual 68, 3) := by decide +kernel
theorem dX9_readsStatement_127 : decode cX9_readsStatement 127 = .ok (.istore_n 2, 1) := by decide +kernel
theorem dX9_readsStatement_128 : decode cX9_readsStatement 128 = .ok (.goto 25, 3) := by decide +kernel
theorem dX9_readsStatement_131 : decode cX9_readsStatement 131 = .ok (.aload_n 0, 1) := by decide +kernel
theorem dX9_readsStatement_132 : decode cX9_readsStatement 132 = .ok (.iconst 0, 1) := by decide +kernel
theorem dX9_readsStatement_133 : decode cX9_readsStatement 133 = .ok (.iconst 2, 1) := by decide +kernel
theorem dX9_readsStatement_134 : decode cX9_readsStatement 134 = .ok (.invokevirtual 68, 3) := by decide +kernel
theorem dX9_readsStatement_137 : decode cX9_readsStatement 137 = .ok (.istore_n 2, 1) := by decide +kernel
theorem dX9_readsStatement_138 : decode cX9_readsStatement 138 = .ok (.goto 15, 3) := by decide +kernel
theorem dX9_readsStatement_141 : decode cX9_readsStatement 141 = .ok (.aload_n 0, 1) := by decide +kernel
theorem dX9_readsStatement_142 : decode cX9_readsStatement 142 = .ok (.dup, 1) := by decide +kernel
theorem dX9_readsStatement_143 : decode cX9_readsStatement 143 = .ok (.getfield 58, 3) := by decide +kernel
theorem dX9_readsStatement_146 : decode cX9_readsStatement 146 = .ok (.iconst 1, 1) := by decide +kernel
theorem dX9_readsStatement_147 : decode cX9_readsStatement 147 = .ok (.isub, 1) := by decide +kernel
theorem dX9_readsStatement_148 : decode cX9_readsStatement 148 = .ok (.putfield 58, 3) := by decide +kernel
theorem dX9_readsStatement_151 : decode cX9_readsStatement 151 = .ok (.iconst 0, 1) := by decide +kernel
theorem dX9_readsStatement_152 : decode cX9_readsStatement 152 = .ok (.ireturn, 1) := by decide +kernel
theorem dX9_readsStatement_153 : decode cX9_readsStatement 153 = .ok (.iload_n 2, 1) := by decide +kernel
theorem dX9_readsStatement_154 : decode cX9_readsStatement 154 = .ok (.ifCond .eq 16, 3) := by decide +kernel
theorem dX9_readsStatement_157 : decode cX9_readsStatement 157 = .ok (.aload_n 0, 1) := by decide +kernel
theorem dX9_readsStatement_158 : decode cX9_readsStatement 158 = .ok (.bipush 59, 2) := by decide +kernel
theorem dX9_readsStatement_160 : decode cX9_readsStatement 160 = .ok (.invokevirtual 75, 3) := by decide +kernel
theorem dX9_readsStatement_163 : decode cX9_readsStatement 163 = .ok (.ifCond .eq 7, 3) := by decide +kernel
theorem dX9_readsStatement_166 : decode cX9_readsStatement 166 = .ok (.iconst 1, 1) := by decide +kernel
theorem dX9_readsStatement_167 : decode cX9_readsStatement 167 = .ok (.goto 4, 3) := by decide +kernel
theorem dX9_readsStatement_170 : decode cX9_readsStatement 170 = .ok (.iconst 0, 1) := by decide +kernel
theorem dX9_readsStatement_171 : decode cX9_readsStatement 171 = .ok (.ireturn, 1) := by decide +kernel
theorem dX9_comes_0 : decode cX9_comes 0 = .ok (.aload_n 0, 1) := by decide +kernel
theorem dX9_comes_1 : decode cX9_comes 1 = .ok (.getfield 28, 3) := by decide +kernel
theorem dX9_comes_4 : decode cX9_comes 4 = .ok (.iconst 0, 1) := by decide +kernel
theorem dX9_comes_5 : decode cX9_comes 5 = .ok (.iaload, 1) := by decide +kernel
theorem dX9_comes_6 : decode cX9_comes 6 = .ok (.istore_n 2, 1) := by decide +kernel
theorem dX9_comes_7 : decode cX9_comes 7 = .ok (.iload_n 1, 1) := by decide +kernel
theorem dX9_comes_8 : decode cX9_comes 8 = .ok (.lookupswitch 232 #[(100, 100), (108, 36), (111, 206)], 36) := by decide +kernel
theorem dX9_comes_44 : decode cX9_comes 44 = .ok (.aload_n 0, 1) := by decide +kernel
theorem dX9_comes_45 : decode cX9_comes 45 = .ok (.getfield 19, 3) := by decide +kernel
theorem dX9_comes_48 : decode cX9_comes 48 = .ok (.iconst 0, 1) := by decide +kernel
theorem dX9_comes_49 : decode cX9_comes 49 = .ok (.iaload, 1) := by decide +kernel
theorem dX9_comes_50 : decode cX9_comes 50 = .ok (.bipush 6, 2) := by decide +kernel
theorem dX9_comes_52 : decode cX9_comes 52 = .ok (.if_icmp .ne 5, 3) := by decide +kernel
theorem dX9_comes_55 : decode cX9_comes 55 = .ok (.iconst 0, 1) := by decide +kernel
theorem dX9_comes_56 : decode cX9_comes 56 = .ok (.ireturn, 1) := by decide +kernel
theorem dX9_comes_57 : decode cX9_comes 57 = .ok (.aload_n 0, 1) := by decide +kernel
theorem dX9_comes_58 : decode cX9_comes 58 = .ok (.getfield 19, 3) := by decide +kernel
theorem dX9_comes_61 : decode cX9_comes 61 = .ok (.iconst 5, 1) := by decide +kernel
theorem dX9_comes_62 : decode cX9_comes 62 = .ok (.iconst 2, 1) := by decide +kernel
theorem dX9_comes_63 : decode cX9_comes 63 = .ok (.aload_n 0, 1) := by decide +kernel
theorem dX9_comes_64 : decode cX9_comes 64 = .ok (.getfield 19, 3) := by decide +kernel
theorem dX9_comes_67 : decode cX9_comes 67 = .ok (.iconst 0, 1) := by decide +kernel
theorem dX9_comes_68 : decode cX9_comes 68 = .ok (.iaload, 1) := by decide +kernel
theorem dX9_comes_69 : decode cX9_comes 69 = .ok (.imul, 1) := by decide +kernel
theorem dX9_comes_70 : decode cX9_comes 70 = .ok (.iadd, 1) := by decide +kernel
theorem dX9_comes_71 : decode cX9_comes 71 = .ok (.iload_n 2, 1) := by decide +kernel
theorem dX9_comes_72 : decode cX9_comes 72 = .ok (.iastore, 1) := by decide +kernel
theorem dX9_comes_73 : decode cX9_comes 73 = .ok (.aload_n 0, 1) := by decide +kernel
theorem dX9_comes_74 : decode cX9_comes 74 = .ok (.getfield 19, 3) := by decide +kernel
theorem dX9_comes_77 : decode cX9_comes 77 = .ok (.iconst 5, 1) := by decide +kernel
theorem dX9_comes_78 : decode cX9_comes 78 = .ok (.iconst 2, 1) := by decide +kernel
theorem dX9_comes_79 : decode cX9_comes 79 = .ok (.aload_n 0, 1) := by decide +kernel
theorem dX9_comes_80 : decode cX9_comes 80 = .ok (.getfield 19, 3) := by decide +kernel
theorem dX9_comes_83 : decode cX9_comes 83 = .ok (.iconst 0, 1) := by decide +kernel
theorem dX9_comes_84 : decode cX9_comes 84 = .ok (.iaload, 1) := by decide +kernel
theorem dX9_comes_85 : decode cX9_comes 85 = .ok (.imul, 1) := by decide +kernel
theorem dX9_comes_86 : decode cX9_comes 86 = .ok (.iadd, 1) := by decide +kernel
theorem dX9_comes_87 : decode cX9_comes 87 = .ok (.iconst 1, 1) := by decide +kernel
theorem dX9_comes_88 : decode cX9_comes 88 = .ok (.iadd, 1) := by decide +kernel
theorem dX9_comes_89 : decode cX9_comes 89 = .ok (.aload_n 0, 1) := by decide +kernel
theorem dX9_comes_90 : decode cX9_comes 90 = .ok (.getfield 28, 3) := by decide +kernel
theorem dX9_comes_93 : decode cX9_comes 93 = .ok (.iconst 1, 1) := by decide +kernel
theorem dX9_comes_94 : decode cX9_comes 94 = .ok (.iaload, 1) := by decide +kernel
theorem dX9_comes_95 : decode cX9_comes 95 = .ok (.iastore, 1) := by decide +kernel
theorem dX9_comes_96 : decode cX9_comes 96 = .ok (.aload_n 0, 1) := by decide +kernel
theorem dX9_comes_97 : decode cX9_comes 97 = .ok (.getfield 19, 3) := by decide +kernel
theorem dX9_comes_100 : decode cX9_comes 100 = .ok (.iconst 0, 1) := by decide +kernel
theorem dX9_comes_101 : decode cX9_comes 101 = .ok (.dup2, 1) := by decide +kernel
theorem dX9_comes_102 : decode cX9_comes 102 = .ok (.iaload, 1) := by decide +kernel
theorem dX9_comes_103 : decode cX9_comes 103 = .ok (.iconst 1, 1) := by decide +kernel
theorem dX9_comes_104 : decode cX9_comes 104 = .ok (.iadd, 1) := by decide +kernel
theorem dX9_comes_105 : decode cX9_comes 105 = .ok (.iastore, 1) := by decide +kernel
theorem dX9_comes_106 : decode cX9_comes 106 = .ok (.iconst 1, 1) := by decide +kernel
theorem dX9_comes_107 : decode cX9_comes 107 = .ok (.ireturn, 1) := by decide +kernel
theorem dX9_comes_108 : decode cX9_comes 108 = .ok (.aload_n 0, 1) := by decide +kernel
theorem dX9_comes_109 : decode cX9_comes 109 = .ok (.getfield 28, 3) := by decide +kernel
theorem dX9_comes_112 : decode cX9_comes 112 = .ok (.iconst 1, 1) := by decide +kernel
theorem dX9_comes_113 : decode cX9_comes 113 = .ok (.iaload, 1) := by decide +kernel
theorem dX9_comes_114 : decode cX9_comes 114 = .ok (.aload_n 0, 1) := by decide +kernel
theorem dX9_comes_115 : decode cX9_comes 115 = .ok (.getfield 19, 3) := by decide +kernel
theorem dX9_comes_118 : decode cX9_comes 118 = .ok (.iconst 0, 1) := by decide +kernel
theorem dX9_comes_119 : decode cX9_comes 119 = .ok (.iaload, 1) := by decide +kernel
theorem dX9_comes_120 : decode cX9_comes 120 = .ok (.if_icmp .ge 14, 3) := by decide +kernel
theorem dX9_comes_123 : decode cX9_comes 123 = .ok (.aload_n 0, 1) := by decide +kernel
theorem dX9_comes_124 : decode cX9_comes 124 = .ok (.getfield 19, 3) := by decide +kernel
theorem dX9_comes_127 : decode cX9_comes 127 = .ok (.iconst 1, 1) := by decide +kernel
theorem dX9_comes_128 : decode cX9_comes 128 = .ok (.iaload, 1) := by decide +kernel
theorem dX9_comes_129 : decode cX9_comes 129 = .ok (.bipush 8, 2) := by decide +kernel
theorem dX9_comes_131 : decode cX9_comes 131 = .ok (.if_icmp .ne 5, 3) := by decide +kernel
theorem dX9_comes_134 : decode cX9_comes 134 = .ok (.iconst 0, 1) := by decide +kernel
theorem dX9_comes_135 : decode cX9_comes 135 = .ok (.ireturn, 1) := by decide +kernel
theorem dX9_comes_136 : decode cX9_comes 136 = .ok (.bipush 17, 2) := by decide +kernel
theorem dX9_comes_138 : decode cX9_comes 138 = .ok (.iconst 5, 1) := by decide +kernel
theorem dX9_comes_139 : decode cX9_comes 139 = .ok (.aload_n 0, 1) := by decide +kernel
theorem dX9_comes_140 : decode cX9_comes 140 = .ok (.getfield 19, 3) := by decide +kernel
theorem dX9_comes_143 : decode cX9_comes 143 = .ok (.iconst 1, 1) := by decide +kernel
theorem dX9_comes_144 : decode cX9_comes 144 = .ok (.iaload, 1) := by decide +kernel
theorem dX9_comes_145 : decode cX9_comes 145 = .ok (.imul, 1) := by decide +kernel
theorem dX9_comes_146 : decode cX9_comes 146 = .ok (.iadd, 1) := by decide +kernel
theorem dX9_comes_147 : decode cX9_comes 147 = .ok (.istore_n 3, 1) := by decide +kernel
theorem dX9_comes_148 : decode cX9_comes 148 = .ok (.iconst 0, 1) := by decide +kernel
theorem dX9_comes_149 : decode cX9_comes 149 = .ok (.istore 4, 2) := by decide +kernel
theorem dX9_comes_151 : decode cX9_comes 151 = .ok (.iload 4, 2) := by decide +kernel
theorem dX9_comes_153 : decode cX9_comes 153 = .ok (.iconst 3, 1) := by decide +kernel
theorem dX9_comes_154 : decode cX9_comes 154 = .ok (.if_icmp .ge 25, 3) := by decide +kernel
theorem dX9_comes_157 : decode cX9_comes 157 = .ok (.aload_n 0, 1) := by decide +kernel
theorem dX9_comes_158 : decode cX9_comes 158 = .ok (.getfield 19, 3) := by decide +kernel
theorem dX9_comes_161 : decode cX9_comes 161 = .ok (.iload_n 3, 1) := by decide +kernel
theorem dX9_comes_162 : decode cX9_comes 162 = .ok (.iload 4, 2) := by decide +kernel
theorem dX9_comes_164 : decode cX9_comes 164 = .ok (.iadd, 1) := by decide +kernel
theorem dX9_comes_165 : decode cX9_comes 165 = .ok (.aload_n 0, 1) := by decide +kernel
theorem dX9_comes_166 : decode cX9_comes 166 = .ok (.getfield 28, 3) := by decide +kernel
theorem dX9_comes_169 : decode cX9_comes 169 = .ok (.iload 4, 2) := by decide +kernel
theorem dX9_comes_171 : decode cX9_comes 171 = .ok (.iaload, 1) := by decide +kernel
theorem dX9_comes_172 : decode cX9_comes 172 = .ok (.iastore, 1) := by decide +kernel
theorem dX9_comes_173 : decode cX9_comes 173 = .ok (.iinc 4 1, 3) := by decide +kernel
theorem dX9_comes_176 : decode cX9_comes 176 = .ok (.goto (-25), 3) := by decide +kernel
theorem dX9_comes_179 : decode cX9_comes 179 = .ok (.aload_n 0, 1) := by decide +kernel
theorem dX9_comes_180 : decode cX9_comes 180 = .ok (.getfield 19, 3) := by decide +kernel
theorem dX9_comes_183 : decode cX9_comes 183 = .ok (.iload_n 3, 1) := by decide +kernel
theorem dX9_comes_184 : decode cX9_comes 184 = .ok (.iconst 3, 1) := by decide +kernel
theorem dX9_comes_185 : decode cX9_comes 185 = .ok (.iadd, 1) := by decide +kernel
theorem dX9_comes_186 : decode cX9_comes 186 = .ok (.aload_n 0, 1) := by decide +kernel
theorem dX9_comes_187 : decode cX9_comes 187 = .ok (.getfield 28, 3) := by decide +kernel
theorem dX9_comes_190 : decode cX9_comes 190 = .ok (.iconst 1, 1) := by decide +kernel
theorem dX9_comes_191 : decode cX9_comes 191 = .ok (.iaload, 1) := by decide +kernel
theorem dX9_comes_192 : decode cX9_comes 192 = .ok (.iastore, 1) := by decide +kernel
theorem dX9_comes_193 : decode cX9_comes 193 = .ok (.aload_n 0, 1) := by decide +kernel
theorem dX9_comes_194 : decode cX9_comes 194 = .ok (.getfield 19, 3) := by decide +kernel
theorem dX9_comes_197 : decode cX9_comes 197 = .ok (.iload_n 3, 1) := by decide +kernel
theorem dX9_comes_198 : decode cX9_comes 198 = .ok (.iconst 4, 1) := by decide +kernel
theorem dX9_comes_199 : decode cX9_comes 199 = .ok (.iadd, 1) := by decide +kernel
theorem dX9_comes_200 : decode cX9_comes 200 = .ok (.iconst 0, 1) := by decide +kernel
theorem dX9_comes_201 : decode cX9_comes 201 = .ok (.iastore, 1) := by decide +kernel
theorem dX9_comes_202 : decode cX9_comes 202 = .ok (.aload_n 0, 1) := by decide +kernel
theorem dX9_comes_203 : decode cX9_comes 203 = .ok (.getfield 19, 3) := by decide +kernel
theorem dX9_comes_206 : decode cX9_comes 206 = .ok (.iconst 1, 1) := by decide +kernel
theorem dX9_comes_207 : decode cX9_comes 207 = .ok (.dup2, 1) := by decide +kernel
theorem dX9_comes_208 : decode cX9_comes 208 = .ok (.iaload, 1) := by decide +kernel
theorem dX9_comes_209 : decode cX9_comes 209 = .ok (.iconst 1, 1) := by decide +kernel
theorem dX9_comes_210 : decode cX9_comes 210 = .ok (.iadd, 1) := by decide +kernel
theorem dX9_comes_211 : decode cX9_comes 211 = .ok (.iastore, 1) := by decide +kernel
theorem dX9_comes_212 : decode cX9_comes 212 = .ok (.iconst 1, 1) := by decide +kernel
theorem dX9_comes_213 : decode cX9_comes 213 = .ok (.ireturn, 1) := by decide +kernel
theorem dX9_comes_214 : decode cX9_comes 214 = .ok (.iload_n 2, 1) := by decide +kernel
theorem dX9_comes_215 : decode cX9_comes 215 = .ok (.aload_n 0, 1) := by decide +kernel
theorem dX9_comes_216 : decode cX9_comes 216 = .ok (.getfield 19, 3) := by decide +kernel
theorem dX9_comes_219 : decode cX9_comes 219 = .ok (.iconst 0, 1) := by decide +kernel
theorem dX9_comes_220 : decode cX9_comes 220 = .ok (.iaload, 1) := by decide +kernel
theorem dX9_comes_221 : decode cX9_comes 221 = .ok (.if_icmp .lt 5, 3) := by decide +kernel
theorem dX9_comes_224 : decode cX9_comes 224 = .ok (.iconst 0, 1) := by decide +kernel
theorem dX9_comes_225 : decode cX9_comes 225 = .ok (.ireturn, 1) := by decide +kernel
theorem dX9_comes_226 : decode cX9_comes 226 = .ok (.aload_n 0, 1) := by decide +kernel
theorem dX9_comes_227 : decode cX9_comes 227 = .ok (.getfield 19, 3) := by decide +kernel
theorem dX9_comes_230 : decode cX9_comes 230 = .ok (.iconst 2, 1) := by decide +kernel
theorem dX9_comes_231 : decode cX9_comes 231 = .ok (.dup2, 1) := by decide +kernel
theorem dX9_comes_232 : decode cX9_comes 232 = .ok (.iaload, 1) := by decide +kernel
theorem dX9_comes_233 : decode cX9_comes 233 = .ok (.iconst 1, 1) := by decide +kernel
theorem dX9_comes_234 : decode cX9_comes 234 = .ok (.iload_n 2, 1) := by decide +kernel
theorem dX9_comes_235 : decode cX9_comes 235 = .ok (.ishl, 1) := by decide +kernel
theorem dX9_comes_236 : decode cX9_comes 236 = .ok (.ixor, 1) := by decide +kernel
theorem dX9_comes_237 : decode cX9_comes 237 = .ok (.iastore, 1) := by decide +kernel
theorem dX9_comes_238 : decode cX9_comes 238 = .ok (.iconst 1, 1) := by decide +kernel
theorem dX9_comes_239 : decode cX9_comes 239 = .ok (.ireturn, 1) := by decide +kernel
theorem dX9_comes_240 : decode cX9_comes 240 = .ok (.iload_n 2, 1) := by decide +kernel
theorem dX9_comes_241 : decode cX9_comes 241 = .ok (.bipush 20, 2) := by decide +kernel
theorem dX9_comes_243 : decode cX9_comes 243 = .ok (.if_icmp .le 5, 3) := by decide +kernel
theorem dX9_comes_246 : decode cX9_comes 246 = .ok (.iconst 0, 1) := by decide +kernel
theorem dX9_comes_247 : decode cX9_comes 247 = .ok (.ireturn, 1) := by decide +kernel
theorem dX9_comes_248 : decode cX9_comes 248 = .ok (.aload_n 0, 1) := by decide +kernel
theorem dX9_comes_249 : decode cX9_comes 249 = .ok (.getfield 19, 3) := by decide +kernel
theorem dX9_comes_252 : decode cX9_comes 252 = .ok (.iconst 3, 1) := by decide +kernel
theorem dX9_comes_253 : decode cX9_comes 253 = .ok (.iload_n 2, 1) := by decide +kernel
theorem dX9_comes_254 : decode cX9_comes 254 = .ok (.iastore, 1) := by decide +kernel
theorem dX9_comes_255 : decode cX9_comes 255 = .ok (.iconst 1, 1) := by decide +kernel
theorem dX9_comes_256 : decode cX9_comes 256 = .ok (.ireturn, 1) := by decide +kernel
theorem dX9_reads_0 : decode cX9_reads 0 = .ok (.aload_n 0, 1) := by decide +kernel
theorem dX9_reads_1 : decode cX9_reads 1 = .ok (.iconst 0, 1) := by decide +kernel
theorem dX9_reads_2 : decode cX9_reads 2 = .ok (.putfield 58, 3) := by decide +kernel
theorem dX9_reads_5 : decode cX9_reads 5 = .ok (.iconst 0, 1) := by decide +kernel
theorem dX9_reads_6 : decode cX9_reads 6 = .ok (.istore_n 1, 1) := by decide +kernel
theorem dX9_reads_7 : decode cX9_reads 7 = .ok (.aload_n 0, 1) := by decide +kernel
theorem dX9_reads_8 : decode cX9_reads 8 = .ok (.invokevirtual 79, 3) := by decide +kernel
theorem dX9_reads_11 : decode cX9_reads 11 = .ok (.ifCond .ne 12, 3) := by decide +kernel
theorem dX9_reads_14 : decode cX9_reads 14 = .ok (.sipush (-1000), 3) := by decide +kernel
theorem dX9_reads_17 : decode cX9_reads 17 = .ok (.aload_n 0, 1) := by decide +kernel
theorem dX9_reads_18 : decode cX9_reads 18 = .ok (.getfield 58, 3) := by decide +kernel
theorem dX9_reads_21 : decode cX9_reads 21 = .ok (.isub, 1) := by decide +kernel
theorem dX9_reads_22 : decode cX9_reads 22 = .ok (.ireturn, 1) := by decide +kernel
theorem dX9_reads_23 : decode cX9_reads 23 = .ok (.iinc 1 1, 3) := by decide +kernel
theorem dX9_reads_26 : decode cX9_reads 26 = .ok (.aload_n 0, 1) := by decide +kernel
theorem dX9_reads_27 : decode cX9_reads 27 = .ok (.getfield 58, 3) := by decide +kernel
theorem dX9_reads_30 : decode cX9_reads 30 = .ok (.aload_n 0, 1) := by decide +kernel
theorem dX9_reads_31 : decode cX9_reads 31 = .ok (.getfield 50, 3) := by decide +kernel
theorem dX9_reads_34 : decode cX9_reads 34 = .ok (.if_icmp .lt (-27), 3) := by decide +kernel
theorem dX9_reads_37 : decode cX9_reads 37 = .ok (.aload_n 0, 1) := by decide +kernel
theorem dX9_reads_38 : decode cX9_reads 38 = .ok (.getfield 13, 3) := by decide +kernel
theorem dX9_reads_41 : decode cX9_reads 41 = .ok (.aload_n 0, 1) := by decide +kernel
theorem dX9_reads_42 : decode cX9_reads 42 = .ok (.getfield 19, 3) := by decide +kernel
theorem dX9_reads_45 : decode cX9_reads 45 = .ok (.invokestatic 34, 3) := by decide +kernel
theorem dX9_reads_48 : decode cX9_reads 48 = .ok (.aload_n 0, 1) := by decide +kernel
theorem dX9_reads_49 : decode cX9_reads 49 = .ok (.iconst 0, 1) := by decide +kernel
theorem dX9_reads_50 : decode cX9_reads 50 = .ok (.putfield 58, 3) := by decide +kernel
theorem dX9_reads_53 : decode cX9_reads 53 = .ok (.aload_n 0, 1) := by decide +kernel
theorem dX9_reads_54 : decode cX9_reads 54 = .ok (.getfield 58, 3) := by decide +kernel
theorem dX9_reads_57 : decode cX9_reads 57 = .ok (.aload_n 0, 1) := by decide +kernel
theorem dX9_reads_58 : decode cX9_reads 58 = .ok (.getfield 50, 3) := by decide +kernel
theorem dX9_reads_61 : decode cX9_reads 61 = .ok (.if_icmp .ge 36, 3) := by decide +kernel
theorem dX9_reads_64 : decode cX9_reads 64 = .ok (.aload_n 0, 1) := by decide +kernel
theorem dX9_reads_65 : decode cX9_reads 65 = .ok (.getfield 58, 3) := by decide +kernel
theorem dX9_reads_68 : decode cX9_reads 68 = .ok (.istore_n 2, 1) := by decide +kernel
theorem dX9_reads_69 : decode cX9_reads 69 = .ok (.aload_n 0, 1) := by decide +kernel
theorem dX9_reads_70 : decode cX9_reads 70 = .ok (.invokevirtual 61, 3) := by decide +kernel
theorem dX9_reads_73 : decode cX9_reads 73 = .ok (.istore_n 3, 1) := by decide +kernel
theorem dX9_reads_74 : decode cX9_reads 74 = .ok (.aload_n 0, 1) := by decide +kernel
theorem dX9_reads_75 : decode cX9_reads 75 = .ok (.invokevirtual 79, 3) := by decide +kernel
theorem dX9_reads_78 : decode cX9_reads 78 = .ok (.istore 4, 2) := by decide +kernel
theorem dX9_reads_80 : decode cX9_reads 80 = .ok (.aload_n 0, 1) := by decide +kernel
theorem dX9_reads_81 : decode cX9_reads 81 = .ok (.iload_n 3, 1) := by decide +kernel
theorem dX9_reads_82 : decode cX9_reads 82 = .ok (.invokevirtual 82, 3) := by decide +kernel
theorem dX9_reads_85 : decode cX9_reads 85 = .ok (.ifCond .ne 9, 3) := by decide +kernel
theorem dX9_reads_88 : decode cX9_reads 88 = .ok (.sipush (-2000), 3) := by decide +kernel
theorem dX9_reads_91 : decode cX9_reads 91 = .ok (.iload_n 2, 1) := by decide +kernel
theorem dX9_reads_92 : decode cX9_reads 92 = .ok (.isub, 1) := by decide +kernel
theorem dX9_reads_93 : decode cX9_reads 93 = .ok (.ireturn, 1) := by decide +kernel
theorem dX9_reads_94 : decode cX9_reads 94 = .ok (.goto (-41), 3) := by decide +kernel
theorem dX9_reads_97 : decode cX9_reads 97 = .ok (.aload_n 0, 1) := by decide +kernel
theorem dX9_reads_98 : decode cX9_reads 98 = .ok (.getfield 19, 3) := by decide +kernel
theorem dX9_reads_101 : decode cX9_reads 101 = .ok (.aload_n 0, 1) := by decide +kernel
theorem dX9_reads_102 : decode cX9_reads 102 = .ok (.getfield 13, 3) := by decide +kernel
theorem dX9_reads_105 : decode cX9_reads 105 = .ok (.invokestatic 34, 3) := by decide +kernel
theorem dX9_reads_108 : decode cX9_reads 108 = .ok (.iload_n 1, 1) := by decide +kernel
theorem dX9_reads_109 : decode cX9_reads 109 = .ok (.ireturn, 1) := by decide +kernel
theorem dX9_town_0 : decode cX9_town 0 = .ok (.aload_n 0, 1) := by decide +kernel
theorem dX9_town_1 : decode cX9_town 1 = .ok (.invokevirtual 85, 3) := by decide +kernel
theorem dX9_town_4 : decode cX9_town 4 = .ok (.istore_n 1, 1) := by decide +kernel
theorem dX9_town_5 : decode cX9_town 5 = .ok (.aload_n 0, 1) := by decide +kernel
theorem dX9_town_6 : decode cX9_town 6 = .ok (.iconst 0, 1) := by decide +kernel
theorem dX9_town_7 : decode cX9_town 7 = .ok (.putfield 50, 3) := by decide +kernel
theorem dX9_town_10 : decode cX9_town 10 = .ok (.iload_n 1, 1) := by decide +kernel
theorem dX9_town_11 : decode cX9_town 11 = .ok (.ireturn, 1) := by decide +kernel
theorem dX9_wayOf_0 : decode cX9_wayOf 0 = .ok (.aload_n 0, 1) := by decide +kernel
theorem dX9_wayOf_1 : decode cX9_wayOf 1 = .ok (.getfield 13, 3) := by decide +kernel
theorem dX9_wayOf_4 : decode cX9_wayOf 4 = .ok (.iconst 5, 1) := by decide +kernel
theorem dX9_wayOf_5 : decode cX9_wayOf 5 = .ok (.iconst 2, 1) := by decide +kernel
theorem dX9_wayOf_6 : decode cX9_wayOf 6 = .ok (.iload_n 1, 1) := by decide +kernel
theorem dX9_wayOf_7 : decode cX9_wayOf 7 = .ok (.imul, 1) := by decide +kernel
theorem dX9_wayOf_8 : decode cX9_wayOf 8 = .ok (.iadd, 1) := by decide +kernel
theorem dX9_wayOf_9 : decode cX9_wayOf 9 = .ok (.iaload, 1) := by decide +kernel
theorem dX9_wayOf_10 : decode cX9_wayOf 10 = .ok (.aload_n 0, 1) := by decide +kernel
theorem dX9_wayOf_11 : decode cX9_wayOf 11 = .ok (.getfield 13, 3) := by decide +kernel
theorem dX9_wayOf_14 : decode cX9_wayOf 14 = .ok (.iconst 5, 1) := by decide +kernel
theorem dX9_wayOf_15 : decode cX9_wayOf 15 = .ok (.iconst 2, 1) := by decide +kernel
theorem dX9_wayOf_16 : decode cX9_wayOf 16 = .ok (.iload_n 2, 1) := by decide +kernel
theorem dX9_wayOf_17 : decode cX9_wayOf 17 = .ok (.imul, 1) := by decide +kernel
theorem dX9_wayOf_18 : decode cX9_wayOf 18 = .ok (.iadd, 1) := by decide +kernel
theorem dX9_wayOf_19 : decode cX9_wayOf 19 = .ok (.iaload, 1) := by decide +kernel
theorem dX9_wayOf_20 : decode cX9_wayOf 20 = .ok (.isub, 1) := by decide +kernel
theorem dX9_wayOf_21 : decode cX9_wayOf 21 = .ok (.invokestatic 88, 3) := by decide +kernel
theorem dX9_wayOf_24 : decode cX9_wayOf 24 = .ok (.aload_n 0, 1) := by decide +kernel
theorem dX9_wayOf_25 : decode cX9_wayOf 25 = .ok (.getfield 13, 3) := by decide +kernel
theorem dX9_wayOf_28 : decode cX9_wayOf 28 = .ok (.iconst 5, 1) := by decide +kernel
theorem dX9_wayOf_29 : decode cX9_wayOf 29 = .ok (.iconst 2, 1) := by decide +kernel
theorem dX9_wayOf_30 : decode cX9_wayOf 30 = .ok (.iload_n 1, 1) := by decide +kernel
theorem dX9_wayOf_31 : decode cX9_wayOf 31 = .ok (.imul, 1) := by decide +kernel
theorem dX9_wayOf_32 : decode cX9_wayOf 32 = .ok (.iadd, 1) := by decide +kernel
theorem dX9_wayOf_33 : decode cX9_wayOf 33 = .ok (.iconst 1, 1) := by decide +kernel
theorem dX9_wayOf_34 : decode cX9_wayOf 34 = .ok (.iadd, 1) := by decide +kernel
theorem dX9_wayOf_35 : decode cX9_wayOf 35 = .ok (.iaload, 1) := by decide +kernel
theorem dX9_wayOf_36 : decode cX9_wayOf 36 = .ok (.aload_n 0, 1) := by decide +kernel
theorem dX9_wayOf_37 : decode cX9_wayOf 37 = .ok (.getfield 13, 3) := by decide +kernel
theorem dX9_wayOf_40 : decode cX9_wayOf 40 = .ok (.iconst 5, 1) := by decide +kernel
theorem dX9_wayOf_41 : decode cX9_wayOf 41 = .ok (.iconst 2, 1) := by decide +kernel
theorem dX9_wayOf_42 : decode cX9_wayOf 42 = .ok (.iload_n 2, 1) := by decide +kernel
theorem dX9_wayOf_43 : decode cX9_wayOf 43 = .ok (.imul, 1) := by decide +kernel
theorem dX9_wayOf_44 : decode cX9_wayOf 44 = .ok (.iadd, 1) := by decide +kernel
theorem dX9_wayOf_45 : decode cX9_wayOf 45 = .ok (.iconst 1, 1) := by decide +kernel
theorem dX9_wayOf_46 : decode cX9_wayOf 46 = .ok (.iadd, 1) := by decide +kernel
theorem dX9_wayOf_47 : decode cX9_wayOf 47 = .ok (.iaload, 1) := by decide +kernel
theorem dX9_wayOf_48 : decode cX9_wayOf 48 = .ok (.isub, 1) := by decide +kernel
theorem dX9_wayOf_49 : decode cX9_wayOf 49 = .ok (.invokestatic 88, 3) := by decide +kernel
theorem dX9_wayOf_52 : decode cX9_wayOf 52 = .ok (.iadd, 1) := by decide +kernel
theorem dX9_wayOf_53 : decode cX9_wayOf 53 = .ok (.ireturn, 1) := by decide +kernel
theorem dX9_nearestOther_0 : decode cX9_nearestOther 0 = .ok (.bipush 9, 2) := by decide +kernel
theorem dX9_nearestOther_2 : decode cX9_nearestOther 2 = .ok (.istore_n 2, 1) := by decide +kernel
theorem dX9_nearestOther_3 : decode cX9_nearestOther 3 = .ok (.iconst 0, 1) := by decide +kernel
theorem dX9_nearestOther_4 : decode cX9_nearestOther 4 = .ok (.istore_n 3, 1) := by decide +kernel
theorem dX9_nearestOther_5 : decode cX9_nearestOther 5 = .ok (.iload_n 3, 1) := by decide +kernel
theorem dX9_nearestOther_6 : decode cX9_nearestOther 6 = .ok (.aload_n 0, 1) := by decide +kernel
theorem dX9_nearestOther_7 : decode cX9_nearestOther 7 = .ok (.getfield 13, 3) := by decide +kernel
theorem dX9_nearestOther_10 : decode cX9_nearestOther 10 = .ok (.iconst 0, 1) := by decide +kernel
theorem dX9_nearestOther_11 : decode cX9_nearestOther 11 = .ok (.iaload, 1) := by decide +kernel
theorem dX9_nearestOther_12 : decode cX9_nearestOther 12 = .ok (.if_icmp .ge 37, 3) := by decide +kernel
theorem dX9_nearestOther_15 : decode cX9_nearestOther 15 = .ok (.iload_n 3, 1) := by decide +kernel
theorem dX9_nearestOther_16 : decode cX9_nearestOther 16 = .ok (.iload_n 1, 1) := by decide +kernel
theorem dX9_nearestOther_17 : decode cX9_nearestOther 17 = .ok (.if_icmp .eq 26, 3) := by decide +kernel
theorem dX9_nearestOther_20 : decode cX9_nearestOther 20 = .ok (.iload_n 2, 1) := by decide +kernel
theorem dX9_nearestOther_21 : decode cX9_nearestOther 21 = .ok (.bipush 9, 2) := by decide +kernel
theorem dX9_nearestOther_23 : decode cX9_nearestOther 23 = .ok (.if_icmp .eq 18, 3) := by decide +kernel
theorem dX9_nearestOther_26 : decode cX9_nearestOther 26 = .ok (.aload_n 0, 1) := by decide +kernel
theorem dX9_nearestOther_27 : decode cX9_nearestOther 27 = .ok (.iload_n 1, 1) := by decide +kernel
theorem dX9_nearestOther_28 : decode cX9_nearestOther 28 = .ok (.iload_n 3, 1) := by decide +kernel
theorem dX9_nearestOther_29 : decode cX9_nearestOther 29 = .ok (.invokevirtual 91, 3) := by decide +kernel
theorem dX9_nearestOther_32 : decode cX9_nearestOther 32 = .ok (.aload_n 0, 1) := by decide +kernel
theorem dX9_nearestOther_33 : decode cX9_nearestOther 33 = .ok (.iload_n 1, 1) := by decide +kernel
theorem dX9_nearestOther_34 : decode cX9_nearestOther 34 = .ok (.iload_n 2, 1) := by decide +kernel
theorem dX9_nearestOther_35 : decode cX9_nearestOther 35 = .ok (.invokevirtual 91, 3) := by decide +kernel
theorem dX9_nearestOther_38 : decode cX9_nearestOther 38 = .ok (.if_icmp .ge 5, 3) := by decide +kernel
theorem dX9_nearestOther_41 : decode cX9_nearestOther 41 = .ok (.iload_n 3, 1) := by decide +kernel
theorem dX9_nearestOther_42 : decode cX9_nearestOther 42 = .ok (.istore_n 2, 1) := by decide +kernel
theorem dX9_nearestOther_43 : decode cX9_nearestOther 43 = .ok (.iinc 3 1, 3) := by decide +kernel
theorem dX9_nearestOther_46 : decode cX9_nearestOther 46 = .ok (.goto (-41), 3) := by decide +kernel
theorem dX9_nearestOther_49 : decode cX9_nearestOther 49 = .ok (.iload_n 2, 1) := by decide +kernel
theorem dX9_nearestOther_50 : decode cX9_nearestOther 50 = .ok (.ireturn, 1) := by decide +kernel
theorem dX9_flies_0 : decode cX9_flies 0 = .ok (.aload_n 0, 1) := by decide +kernel
theorem dX9_flies_1 : decode cX9_flies 1 = .ok (.iload_n 1, 1) := by decide +kernel
theorem dX9_flies_2 : decode cX9_flies 2 = .ok (.invokevirtual 94, 3) := by decide +kernel
theorem dX9_flies_5 : decode cX9_flies 5 = .ok (.ifCond .eq 6, 3) := by decide +kernel
theorem dX9_flies_8 : decode cX9_flies 8 = .ok (.bipush 9, 2) := by decide +kernel
theorem dX9_flies_10 : decode cX9_flies 10 = .ok (.ireturn, 1) := by decide +kernel
theorem dX9_flies_11 : decode cX9_flies 11 = .ok (.aload_n 0, 1) := by decide +kernel
theorem dX9_flies_12 : decode cX9_flies 12 = .ok (.iload_n 1, 1) := by decide +kernel
theorem dX9_flies_13 : decode cX9_flies 13 = .ok (.iconst 1, 1) := by decide +kernel
theorem dX9_flies_14 : decode cX9_flies 14 = .ok (.invokevirtual 42, 3) := by decide +kernel
theorem dX9_flies_17 : decode cX9_flies 17 = .ok (.istore_n 2, 1) := by decide +kernel
theorem dX9_flies_18 : decode cX9_flies 18 = .ok (.aload_n 0, 1) := by decide +kernel
theorem dX9_flies_19 : decode cX9_flies 19 = .ok (.aload_n 0, 1) := by decide +kernel
theorem dX9_flies_20 : decode cX9_flies 20 = .ok (.iload_n 1, 1) := by decide +kernel
theorem dX9_flies_21 : decode cX9_flies 21 = .ok (.iconst 3, 1) := by decide +kernel
theorem dX9_flies_22 : decode cX9_flies 22 = .ok (.invokevirtual 42, 3) := by decide +kernel
theorem dX9_flies_25 : decode cX9_flies 25 = .ok (.iload_n 2, 1) := by decide +kernel
theorem dX9_flies_26 : decode cX9_flies 26 = .ok (.invokevirtual 91, 3) := by decide +kernel
theorem dX9_flies_29 : decode cX9_flies 29 = .ok (.istore_n 3, 1) := by decide +kernel
theorem dX9_flies_30 : decode cX9_flies 30 = .ok (.iload_n 3, 1) := by decide +kernel
theorem dX9_flies_31 : decode cX9_flies 31 = .ok (.iconst 2, 1) := by decide +kernel
theorem dX9_flies_32 : decode cX9_flies 32 = .ok (.aload_n 0, 1) := by decide +kernel
theorem dX9_flies_33 : decode cX9_flies 33 = .ok (.iload_n 1, 1) := by decide +kernel
theorem dX9_flies_34 : decode cX9_flies 34 = .ok (.iconst 2, 1) := by decide +kernel
theorem dX9_flies_35 : decode cX9_flies 35 = .ok (.invokevirtual 42, 3) := by decide +kernel
theorem dX9_flies_38 : decode cX9_flies 38 = .ok (.imul, 1) := by decide +kernel
theorem dX9_flies_39 : decode cX9_flies 39 = .ok (.if_icmp .gt 7, 3) := by decide +kernel
theorem dX9_flies_42 : decode cX9_flies 42 = .ok (.iconst 1, 1) := by decide +kernel
theorem dX9_flies_43 : decode cX9_flies 43 = .ok (.goto 4, 3) := by decide +kernel
theorem dX9_flies_46 : decode cX9_flies 46 = .ok (.iconst 0, 1) := by decide +kernel
theorem dX9_flies_47 : decode cX9_flies 47 = .ok (.istore 4, 2) := by decide +kernel
theorem dX9_flies_49 : decode cX9_flies 49 = .ok (.aload_n 0, 1) := by decide +kernel
theorem dX9_flies_50 : decode cX9_flies 50 = .ok (.iload_n 1, 1) := by decide +kernel
theorem dX9_flies_51 : decode cX9_flies 51 = .ok (.iconst 0, 1) := by decide +kernel
theorem dX9_flies_52 : decode cX9_flies 52 = .ok (.invokevirtual 42, 3) := by decide +kernel
theorem dX9_flies_55 : decode cX9_flies 55 = .ok (.tableswitch 90 1 5 #[33, 50, 62, 90, 73], 33) := by decide +kernel
theorem dX9_flies_88 : decode cX9_flies 88 = .ok (.aload_n 0, 1) := by decide +kernel
theorem dX9_flies_89 : decode cX9_flies 89 = .ok (.iload_n 1, 1) := by decide +kernel
theorem dX9_flies_90 : decode cX9_flies 90 = .ok (.iconst 2, 1) := by decide +kernel
theorem dX9_flies_91 : decode cX9_flies 91 = .ok (.invokevirtual 42, 3) := by decide +kernel
theorem dX9_flies_94 : decode cX9_flies 94 = .ok (.iconst 5, 1) := by decide +kernel
theorem dX9_flies_95 : decode cX9_flies 95 = .ok (.if_icmp .lt 8, 3) := by decide +kernel
theorem dX9_flies_98 : decode cX9_flies 98 = .ok (.bipush 9, 2) := by decide +kernel
theorem dX9_flies_100 : decode cX9_flies 100 = .ok (.goto 4, 3) := by decide +kernel
theorem dX9_flies_103 : decode cX9_flies 103 = .ok (.iload_n 2, 1) := by decide +kernel
theorem dX9_flies_104 : decode cX9_flies 104 = .ok (.ireturn, 1) := by decide +kernel
theorem dX9_flies_105 : decode cX9_flies 105 = .ok (.iload 4, 2) := by decide +kernel
theorem dX9_flies_107 : decode cX9_flies 107 = .ok (.ifCond .eq 7, 3) := by decide +kernel
theorem dX9_flies_110 : decode cX9_flies 110 = .ok (.iload_n 2, 1) := by decide +kernel
theorem dX9_flies_111 : decode cX9_flies 111 = .ok (.goto 5, 3) := by decide +kernel
theorem dX9_flies_114 : decode cX9_flies 114 = .ok (.bipush 9, 2) := by decide +kernel
theorem dX9_flies_116 : decode cX9_flies 116 = .ok (.ireturn, 1) := by decide +kernel
theorem dX9_flies_117 : decode cX9_flies 117 = .ok (.aload_n 0, 1) := by decide +kernel
theorem dX9_flies_118 : decode cX9_flies 118 = .ok (.aload_n 0, 1) := by decide +kernel
theorem dX9_flies_119 : decode cX9_flies 119 = .ok (.iload_n 1, 1) := by decide +kernel
theorem dX9_flies_120 : decode cX9_flies 120 = .ok (.iconst 3, 1) := by decide +kernel
theorem dX9_flies_121 : decode cX9_flies 121 = .ok (.invokevirtual 42, 3) := by decide +kernel
theorem dX9_flies_124 : decode cX9_flies 124 = .ok (.invokevirtual 97, 3) := by decide +kernel
theorem dX9_flies_127 : decode cX9_flies 127 = .ok (.ireturn, 1) := by decide +kernel
theorem dX9_flies_128 : decode cX9_flies 128 = .ok (.iload 4, 2) := by decide +kernel
theorem dX9_flies_130 : decode cX9_flies 130 = .ok (.ifCond .eq 12, 3) := by decide +kernel
theorem dX9_flies_133 : decode cX9_flies 133 = .ok (.iload_n 3, 1) := by decide +kernel
theorem dX9_flies_134 : decode cX9_flies 134 = .ok (.iconst 3, 1) := by decide +kernel
theorem dX9_flies_135 : decode cX9_flies 135 = .ok (.if_icmp .lt 7, 3) := by decide +kernel
theorem dX9_flies_138 : decode cX9_flies 138 = .ok (.iload_n 2, 1) := by decide +kernel
theorem dX9_flies_139 : decode cX9_flies 139 = .ok (.goto 5, 3) := by decide +kernel
theorem dX9_flies_142 : decode cX9_flies 142 = .ok (.bipush 9, 2) := by decide +kernel
theorem dX9_flies_144 : decode cX9_flies 144 = .ok (.ireturn, 1) := by decide +kernel
theorem dX9_flies_145 : decode cX9_flies 145 = .ok (.iload_n 2, 1) := by decide +kernel
theorem dX9_flies_146 : decode cX9_flies 146 = .ok (.ireturn, 1) := by decide +kernel
theorem dX9_valueOf_0 : decode cX9_valueOf 0 = .ok (.aload_n 0, 1) := by decide +kernel
theorem dX9_valueOf_1 : decode cX9_valueOf 1 = .ok (.iload_n 1, 1) := by decide +kernel
theorem dX9_valueOf_2 : decode cX9_valueOf 2 = .ok (.iconst 0, 1) := by decide +kernel
theorem dX9_valueOf_3 : decode cX9_valueOf 3 = .ok (.invokevirtual 42, 3) := by decide +kernel
theorem dX9_valueOf_6 : decode cX9_valueOf 6 = .ok (.tableswitch 67 1 5 #[34, 57, 59, 61, 64], 34) := by decide +kernel
theorem dX9_valueOf_40 : decode cX9_valueOf 40 = .ok (.aload_n 0, 1) := by decide +kernel
theorem dX9_valueOf_41 : decode cX9_valueOf 41 = .ok (.iload_n 1, 1) := by decide +kernel
theorem dX9_valueOf_42 : decode cX9_valueOf 42 = .ok (.iconst 2, 1) := by decide +kernel
theorem dX9_valueOf_43 : decode cX9_valueOf 43 = .ok (.invokevirtual 42, 3) := by decide +kernel
theorem dX9_valueOf_46 : decode cX9_valueOf 46 = .ok (.iconst 4, 1) := by decide +kernel
theorem dX9_valueOf_47 : decode cX9_valueOf 47 = .ok (.if_icmp .lt 7, 3) := by decide +kernel
theorem dX9_valueOf_50 : decode cX9_valueOf 50 = .ok (.iconst 1, 1) := by decide +kernel
theorem dX9_valueOf_51 : decode cX9_valueOf 51 = .ok (.goto 11, 3) := by decide +kernel
theorem dX9_valueOf_54 : decode cX9_valueOf 54 = .ok (.iconst 5, 1) := by decide +kernel
theorem dX9_valueOf_55 : decode cX9_valueOf 55 = .ok (.aload_n 0, 1) := by decide +kernel
theorem dX9_valueOf_56 : decode cX9_valueOf 56 = .ok (.iload_n 1, 1) := by decide +kernel
theorem dX9_valueOf_57 : decode cX9_valueOf 57 = .ok (.iconst 2, 1) := by decide +kernel
theorem dX9_valueOf_58 : decode cX9_valueOf 58 = .ok (.invokevirtual 42, 3) := by decide +kernel
theorem dX9_valueOf_61 : decode cX9_valueOf 61 = .ok (.isub, 1) := by decide +kernel
theorem dX9_valueOf_62 : decode cX9_valueOf 62 = .ok (.ireturn, 1) := by decide +kernel
theorem dX9_valueOf_63 : decode cX9_valueOf 63 = .ok (.iconst 3, 1) := by decide +kernel
theorem dX9_valueOf_64 : decode cX9_valueOf 64 = .ok (.ireturn, 1) := by decide +kernel
theorem dX9_valueOf_65 : decode cX9_valueOf 65 = .ok (.iconst 2, 1) := by decide +kernel
theorem dX9_valueOf_66 : decode cX9_valueOf 66 = .ok (.ireturn, 1) := by decide +kernel
theorem dX9_valueOf_67 : decode cX9_valueOf 67 = .ok (.bipush 8, 2) := by decide +kernel
theorem dX9_valueOf_69 : decode cX9_valueOf 69 = .ok (.ireturn, 1) := by decide +kernel
theorem dX9_valueOf_70 : decode cX9_valueOf 70 = .ok (.bipush 6, 2) := by decide +kernel
theorem dX9_valueOf_72 : decode cX9_valueOf 72 = .ok (.ireturn, 1) := by decide +kernel
theorem dX9_valueOf_73 : decode cX9_valueOf 73 = .ok (.iconst 5, 1) := by decide +kernel
theorem dX9_valueOf_74 : decode cX9_valueOf 74 = .ok (.ireturn, 1) := by decide +kernel
theorem dX9_goesHome_0 : decode cX9_goesHome 0 = .ok (.aload_n 0, 1) := by decide +kernel
theorem dX9_goesHome_1 : decode cX9_goesHome 1 = .ok (.iload_n 1, 1) := by decide +kernel
theorem dX9_goesHome_2 : decode cX9_goesHome 2 = .ok (.invokevirtual 100, 3) := by decide +kernel
theorem dX9_goesHome_5 : decode cX9_goesHome 5 = .ok (.istore_n 3, 1) := by decide +kernel
theorem dX9_goesHome_6 : decode cX9_goesHome 6 = .ok (.iload_n 3, 1) := by decide +kernel
theorem dX9_goesHome_7 : decode cX9_goesHome 7 = .ok (.bipush 9, 2) := by decide +kernel
theorem dX9_goesHome_9 : decode cX9_goesHome 9 = .ok (.if_icmp .ne 4, 3) := by decide +kernel
theorem dX9_goesHome_12 : decode cX9_goesHome 12 = .ok (.return_, 1) := by decide +kernel
theorem dX9_goesHome_13 : decode cX9_goesHome 13 = .ok (.aload_n 0, 1) := by decide +kernel
theorem dX9_goesHome_14 : decode cX9_goesHome 14 = .ok (.iload_n 1, 1) := by decide +kernel
theorem dX9_goesHome_15 : decode cX9_goesHome 15 = .ok (.iconst 3, 1) := by decide +kernel
theorem dX9_goesHome_16 : decode cX9_goesHome 16 = .ok (.aload_n 0, 1) := by decide +kernel
theorem dX9_goesHome_17 : decode cX9_goesHome 17 = .ok (.aload_n 0, 1) := by decide +kernel
theorem dX9_goesHome_18 : decode cX9_goesHome 18 = .ok (.iload_n 1, 1) := by decide +kernel
theorem dX9_goesHome_19 : decode cX9_goesHome 19 = .ok (.iconst 3, 1) := by decide +kernel
theorem dX9_goesHome_20 : decode cX9_goesHome 20 = .ok (.invokevirtual 42, 3) := by decide +kernel
theorem dX9_goesHome_23 : decode cX9_goesHome 23 = .ok (.iload_n 3, 1) := by decide +kernel
theorem dX9_goesHome_24 : decode cX9_goesHome 24 = .ok (.invokevirtual 91, 3) := by decide +kernel
theorem dX9_goesHome_27 : decode cX9_goesHome 27 = .ok (.iload_n 2, 1) := by decide +kernel
theorem dX9_goesHome_28 : decode cX9_goesHome 28 = .ok (.if_icmp .le 8, 3) := by decide +kernel
theorem dX9_goesHome_31 : decode cX9_goesHome 31 = .ok (.bipush 9, 2) := by decide +kernel
theorem dX9_goesHome_33 : decode cX9_goesHome 33 = .ok (.goto 4, 3) := by decide +kernel
theorem dX9_goesHome_36 : decode cX9_goesHome 36 = .ok (.iload_n 3, 1) := by decide +kernel
theorem dX9_goesHome_37 : decode cX9_goesHome 37 = .ok (.invokevirtual 103, 3) := by decide +kernel
theorem dX9_goesHome_40 : decode cX9_goesHome 40 = .ok (.return_, 1) := by decide +kernel
theorem dX9_layEggs_0 : decode cX9_layEggs 0 = .ok (.aload_n 0, 1) := by decide +kernel
theorem dX9_layEggs_1 : decode cX9_layEggs 1 = .ok (.getfield 13, 3) := by decide +kernel
theorem dX9_layEggs_4 : decode cX9_layEggs 4 = .ok (.iconst 1, 1) := by decide +kernel
theorem dX9_layEggs_5 : decode cX9_layEggs 5 = .ok (.iaload, 1) := by decide +kernel
theorem dX9_layEggs_6 : decode cX9_layEggs 6 = .ok (.istore_n 1, 1) := by decide +kernel
theorem dX9_layEggs_7 : decode cX9_layEggs 7 = .ok (.iconst 0, 1) := by decide +kernel
theorem dX9_layEggs_8 : decode cX9_layEggs 8 = .ok (.istore_n 2, 1) := by decide +kernel
theorem dX9_layEggs_9 : decode cX9_layEggs 9 = .ok (.iload_n 2, 1) := by decide +kernel
theorem dX9_layEggs_10 : decode cX9_layEggs 10 = .ok (.iload_n 1, 1) := by decide +kernel
theorem dX9_layEggs_11 : decode cX9_layEggs 11 = .ok (.if_icmp .ge 147, 3) := by decide +kernel
theorem dX9_layEggs_14 : decode cX9_layEggs 14 = .ok (.aload_n 0, 1) := by decide +kernel
theorem dX9_layEggs_15 : decode cX9_layEggs 15 = .ok (.iload_n 2, 1) := by decide +kernel
theorem dX9_layEggs_16 : decode cX9_layEggs 16 = .ok (.iconst 0, 1) := by decide +kernel
theorem dX9_layEggs_17 : decode cX9_layEggs 17 = .ok (.invokevirtual 42, 3) := by decide +kernel
theorem dX9_layEggs_20 : decode cX9_layEggs 20 = .ok (.iconst 4, 1) := by decide +kernel
theorem dX9_layEggs_21 : decode cX9_layEggs 21 = .ok (.if_icmp .ne 54, 3) := by decide +kernel
theorem dX9_layEggs_24 : decode cX9_layEggs 24 = .ok (.aload_n 0, 1) := by decide +kernel
theorem dX9_layEggs_25 : decode cX9_layEggs 25 = .ok (.iload_n 2, 1) := by decide +kernel
theorem dX9_layEggs_26 : decode cX9_layEggs 26 = .ok (.iconst 3, 1) := by decide +kernel
theorem dX9_layEggs_27 : decode cX9_layEggs 27 = .ok (.invokevirtual 42, 3) := by decide +kernel
theorem dX9_layEggs_30 : decode cX9_layEggs 30 = .ok (.aload_n 0, 1) := by decide +kernel
theorem dX9_layEggs_31 : decode cX9_layEggs 31 = .ok (.iload_n 2, 1) := by decide +kernel
theorem dX9_layEggs_32 : decode cX9_layEggs 32 = .ok (.iconst 1, 1) := by decide +kernel
theorem dX9_layEggs_33 : decode cX9_layEggs 33 = .ok (.invokevirtual 42, 3) := by decide +kernel
theorem dX9_layEggs_36 : decode cX9_layEggs 36 = .ok (.if_icmp .ne 39, 3) := by decide +kernel
theorem dX9_layEggs_39 : decode cX9_layEggs 39 = .ok (.aload_n 0, 1) := by decide +kernel
theorem dX9_layEggs_40 : decode cX9_layEggs 40 = .ok (.iload_n 2, 1) := by decide +kernel
theorem dX9_layEggs_41 : decode cX9_layEggs 41 = .ok (.iconst 2, 1) := by decide +kernel
theorem dX9_layEggs_42 : decode cX9_layEggs 42 = .ok (.invokevirtual 42, 3) := by decide +kernel
theorem dX9_layEggs_45 : decode cX9_layEggs 45 = .ok (.iconst 1, 1) := by decide +kernel
theorem dX9_layEggs_46 : decode cX9_layEggs 46 = .ok (.if_icmp .lt 29, 3) := by decide +kernel
theorem dX9_layEggs_49 : decode cX9_layEggs 49 = .ok (.aload_n 0, 1) := by decide +kernel
theorem dX9_layEggs_50 : decode cX9_layEggs 50 = .ok (.iload_n 2, 1) := by decide +kernel
theorem dX9_layEggs_51 : decode cX9_layEggs 51 = .ok (.iconst 2, 1) := by decide +kernel
theorem dX9_layEggs_52 : decode cX9_layEggs 52 = .ok (.invokevirtual 42, 3) := by decide +kernel
theorem dX9_layEggs_55 : decode cX9_layEggs 55 = .ok (.bipush 6, 2) := by decide +kernel
theorem dX9_layEggs_57 : decode cX9_layEggs 57 = .ok (.if_icmp .gt 18, 3) := by decide +kernel
theorem dX9_layEggs_60 : decode cX9_layEggs 60 = .ok (.aload_n 0, 1) := by decide +kernel
theorem dX9_layEggs_61 : decode cX9_layEggs 61 = .ok (.getfield 13, 3) := by decide +kernel
theorem dX9_layEggs_64 : decode cX9_layEggs 64 = .ok (.iconst 1, 1) := by decide +kernel
theorem dX9_layEggs_65 : decode cX9_layEggs 65 = .ok (.iaload, 1) := by decide +kernel
theorem dX9_layEggs_66 : decode cX9_layEggs 66 = .ok (.bipush 8, 2) := by decide +kernel
theorem dX9_layEggs_68 : decode cX9_layEggs 68 = .ok (.if_icmp .ge 7, 3) := by decide +kernel
theorem dX9_layEggs_71 : decode cX9_layEggs 71 = .ok (.iconst 1, 1) := by decide +kernel
theorem dX9_layEggs_72 : decode cX9_layEggs 72 = .ok (.goto 4, 3) := by decide +kernel
theorem dX9_layEggs_75 : decode cX9_layEggs 75 = .ok (.iconst 0, 1) := by decide +kernel
theorem dX9_layEggs_76 : decode cX9_layEggs 76 = .ok (.istore_n 3, 1) := by decide +kernel
theorem dX9_layEggs_77 : decode cX9_layEggs 77 = .ok (.iload_n 3, 1) := by decide +kernel
theorem dX9_layEggs_78 : decode cX9_layEggs 78 = .ok (.ifCond .ne 6, 3) := by decide +kernel
theorem dX9_layEggs_81 : decode cX9_layEggs 81 = .ok (.goto 71, 3) := by decide +kernel
theorem dX9_layEggs_84 : decode cX9_layEggs 84 = .ok (.aload_n 0, 1) := by decide +kernel
theorem dX9_layEggs_85 : decode cX9_layEggs 85 = .ok (.getfield 13, 3) := by decide +kernel
theorem dX9_layEggs_88 : decode cX9_layEggs 88 = .ok (.iconst 1, 1) := by decide +kernel
theorem dX9_layEggs_89 : decode cX9_layEggs 89 = .ok (.iaload, 1) := by decide +kernel
theorem dX9_layEggs_90 : decode cX9_layEggs 90 = .ok (.istore 4, 2) := by decide +kernel
theorem dX9_layEggs_92 : decode cX9_layEggs 92 = .ok (.aload_n 0, 1) := by decide +kernel
theorem dX9_layEggs_93 : decode cX9_layEggs 93 = .ok (.getfield 13, 3) := by decide +kernel
theorem dX9_layEggs_96 : decode cX9_layEggs 96 = .ok (.iconst 1, 1) := by decide +kernel
theorem dX9_layEggs_97 : decode cX9_layEggs 97 = .ok (.dup2, 1) := by decide +kernel
theorem dX9_layEggs_98 : decode cX9_layEggs 98 = .ok (.iaload, 1) := by decide +kernel
theorem dX9_layEggs_99 : decode cX9_layEggs 99 = .ok (.iconst 1, 1) := by decide +kernel
theorem dX9_layEggs_100 : decode cX9_layEggs 100 = .ok (.iadd, 1) := by decide +kernel
theorem dX9_layEggs_101 : decode cX9_layEggs 101 = .ok (.iastore, 1) := by decide +kernel
theorem dX9_layEggs_102 : decode cX9_layEggs 102 = .ok (.aload_n 0, 1) := by decide +kernel
theorem dX9_layEggs_103 : decode cX9_layEggs 103 = .ok (.iload 4, 2) := by decide +kernel
theorem dX9_layEggs_105 : decode cX9_layEggs 105 = .ok (.iconst 0, 1) := by decide +kernel
theorem dX9_layEggs_106 : decode cX9_layEggs 106 = .ok (.iconst 0, 1) := by decide +kernel
theorem dX9_layEggs_107 : decode cX9_layEggs 107 = .ok (.invokevirtual 103, 3) := by decide +kernel
theorem dX9_layEggs_110 : decode cX9_layEggs 110 = .ok (.aload_n 0, 1) := by decide +kernel
theorem dX9_layEggs_111 : decode cX9_layEggs 111 = .ok (.iload 4, 2) := by decide +kernel
theorem dX9_layEggs_113 : decode cX9_layEggs 113 = .ok (.iconst 1, 1) := by decide +kernel
theorem dX9_layEggs_114 : decode cX9_layEggs 114 = .ok (.aload_n 0, 1) := by decide +kernel
theorem dX9_layEggs_115 : decode cX9_layEggs 115 = .ok (.iload_n 2, 1) := by decide +kernel
theorem dX9_layEggs_116 : decode cX9_layEggs 116 = .ok (.iconst 1, 1) := by decide +kernel
theorem dX9_layEggs_117 : decode cX9_layEggs 117 = .ok (.invokevirtual 42, 3) := by decide +kernel
theorem dX9_layEggs_120 : decode cX9_layEggs 120 = .ok (.invokevirtual 103, 3) := by decide +kernel
theorem dX9_layEggs_123 : decode cX9_layEggs 123 = .ok (.aload_n 0, 1) := by decide +kernel
theorem dX9_layEggs_124 : decode cX9_layEggs 124 = .ok (.iload 4, 2) := by decide +kernel
theorem dX9_layEggs_126 : decode cX9_layEggs 126 = .ok (.iconst 2, 1) := by decide +kernel
theorem dX9_layEggs_127 : decode cX9_layEggs 127 = .ok (.iconst 0, 1) := by decide +kernel
theorem dX9_layEggs_128 : decode cX9_layEggs 128 = .ok (.invokevirtual 103, 3) := by decide +kernel
theorem dX9_layEggs_131 : decode cX9_layEggs 131 = .ok (.aload_n 0, 1) := by decide +kernel
theorem dX9_layEggs_132 : decode cX9_layEggs 132 = .ok (.iload 4, 2) := by decide +kernel
theorem dX9_layEggs_134 : decode cX9_layEggs 134 = .ok (.iconst 3, 1) := by decide +kernel
theorem dX9_layEggs_135 : decode cX9_layEggs 135 = .ok (.aload_n 0, 1) := by decide +kernel
theorem dX9_layEggs_136 : decode cX9_layEggs 136 = .ok (.iload_n 2, 1) := by decide +kernel
theorem dX9_layEggs_137 : decode cX9_layEggs 137 = .ok (.iconst 1, 1) := by decide +kernel
theorem dX9_layEggs_138 : decode cX9_layEggs 138 = .ok (.invokevirtual 42, 3) := by decide +kernel
theorem dX9_layEggs_141 : decode cX9_layEggs 141 = .ok (.invokevirtual 103, 3) := by decide +kernel
theorem dX9_layEggs_144 : decode cX9_layEggs 144 = .ok (.aload_n 0, 1) := by decide +kernel
theorem dX9_layEggs_145 : decode cX9_layEggs 145 = .ok (.iload 4, 2) := by decide +kernel
theorem dX9_layEggs_147 : decode cX9_layEggs 147 = .ok (.iconst 4, 1) := by decide +kernel
theorem dX9_layEggs_148 : decode cX9_layEggs 148 = .ok (.iconst 0, 1) := by decide +kernel
theorem dX9_layEggs_149 : decode cX9_layEggs 149 = .ok (.invokevirtual 103, 3) := by decide +kernel
theorem dX9_layEggs_152 : decode cX9_layEggs 152 = .ok (.iinc 2 1, 3) := by decide +kernel
theorem dX9_layEggs_155 : decode cX9_layEggs 155 = .ok (.goto (-146), 3) := by decide +kernel
theorem dX9_layEggs_158 : decode cX9_layEggs 158 = .ok (.return_, 1) := by decide +kernel
theorem dX9_lostMany_0 : decode cX9_lostMany 0 = .ok (.iconst 0, 1) := by decide +kernel
theorem dX9_lostMany_1 : decode cX9_lostMany 1 = .ok (.istore_n 1, 1) := by decide +kernel
theorem dX9_lostMany_2 : decode cX9_lostMany 2 = .ok (.iconst 0, 1) := by decide +kernel
theorem dX9_lostMany_3 : decode cX9_lostMany 3 = .ok (.istore_n 2, 1) := by decide +kernel
theorem dX9_lostMany_4 : decode cX9_lostMany 4 = .ok (.iload_n 2, 1) := by decide +kernel
theorem dX9_lostMany_5 : decode cX9_lostMany 5 = .ok (.aload_n 0, 1) := by decide +kernel
theorem dX9_lostMany_6 : decode cX9_lostMany 6 = .ok (.getfield 13, 3) := by decide +kernel
theorem dX9_lostMany_9 : decode cX9_lostMany 9 = .ok (.iconst 1, 1) := by decide +kernel
theorem dX9_lostMany_10 : decode cX9_lostMany 10 = .ok (.iaload, 1) := by decide +kernel
theorem dX9_lostMany_11 : decode cX9_lostMany 11 = .ok (.if_icmp .ge 25, 3) := by decide +kernel
theorem dX9_lostMany_14 : decode cX9_lostMany 14 = .ok (.iload_n 1, 1) := by decide +kernel
theorem dX9_lostMany_15 : decode cX9_lostMany 15 = .ok (.aload_n 0, 1) := by decide +kernel
theorem dX9_lostMany_16 : decode cX9_lostMany 16 = .ok (.iload_n 2, 1) := by decide +kernel
theorem dX9_lostMany_17 : decode cX9_lostMany 17 = .ok (.invokevirtual 94, 3) := by decide +kernel
theorem dX9_lostMany_20 : decode cX9_lostMany 20 = .ok (.ifCond .eq 7, 3) := by decide +kernel
theorem dX9_lostMany_23 : decode cX9_lostMany 23 = .ok (.iconst 1, 1) := by decide +kernel
theorem dX9_lostMany_24 : decode cX9_lostMany 24 = .ok (.goto 4, 3) := by decide +kernel
theorem dX9_lostMany_27 : decode cX9_lostMany 27 = .ok (.iconst 0, 1) := by decide +kernel
theorem dX9_lostMany_28 : decode cX9_lostMany 28 = .ok (.iadd, 1) := by decide +kernel
theorem dX9_lostMany_29 : decode cX9_lostMany 29 = .ok (.istore_n 1, 1) := by decide +kernel
theorem dX9_lostMany_30 : decode cX9_lostMany 30 = .ok (.iinc 2 1, 3) := by decide +kernel
theorem dX9_lostMany_33 : decode cX9_lostMany 33 = .ok (.goto (-29), 3) := by decide +kernel
theorem dX9_lostMany_36 : decode cX9_lostMany 36 = .ok (.iload_n 1, 1) := by decide +kernel
theorem dX9_lostMany_37 : decode cX9_lostMany 37 = .ok (.ireturn, 1) := by decide +kernel
theorem dX9_goes_0 : decode cX9_goes 0 = .ok (.aload_n 0, 1) := by decide +kernel
theorem dX9_goes_1 : decode cX9_goes 1 = .ok (.getfield 13, 3) := by decide +kernel
theorem dX9_goes_4 : decode cX9_goes 4 = .ok (.iconst 1, 1) := by decide +kernel
theorem dX9_goes_5 : decode cX9_goes 5 = .ok (.iaload, 1) := by decide +kernel
theorem dX9_goes_6 : decode cX9_goes 6 = .ok (.istore_n 1, 1) := by decide +kernel
theorem dX9_goes_7 : decode cX9_goes 7 = .ok (.iconst 0, 1) := by decide +kernel
theorem dX9_goes_8 : decode cX9_goes 8 = .ok (.istore_n 2, 1) := by decide +kernel
theorem dX9_goes_9 : decode cX9_goes 9 = .ok (.iload_n 2, 1) := by decide +kernel
theorem dX9_goes_10 : decode cX9_goes 10 = .ok (.iload_n 1, 1) := by decide +kernel
theorem dX9_goes_11 : decode cX9_goes 11 = .ok (.if_icmp .ge 56, 3) := by decide +kernel
theorem dX9_goes_14 : decode cX9_goes 14 = .ok (.aload_n 0, 1) := by decide +kernel
theorem dX9_goes_15 : decode cX9_goes 15 = .ok (.iload_n 2, 1) := by decide +kernel
theorem dX9_goes_16 : decode cX9_goes 16 = .ok (.invokevirtual 94, 3) := by decide +kernel
theorem dX9_goes_19 : decode cX9_goes 19 = .ok (.ifCond .ne 42, 3) := by decide +kernel
theorem dX9_goes_22 : decode cX9_goes 22 = .ok (.aload_n 0, 1) := by decide +kernel
theorem dX9_goes_23 : decode cX9_goes 23 = .ok (.iload_n 2, 1) := by decide +kernel
theorem dX9_goes_24 : decode cX9_goes 24 = .ok (.iconst 4, 1) := by decide +kernel
theorem dX9_goes_25 : decode cX9_goes 25 = .ok (.invokevirtual 42, 3) := by decide +kernel
theorem dX9_goes_28 : decode cX9_goes 28 = .ok (.ifCond .ne 33, 3) := by decide +kernel
theorem dX9_goes_31 : decode cX9_goes 31 = .ok (.aload_n 0, 1) := by decide +kernel
theorem dX9_goes_32 : decode cX9_goes 32 = .ok (.getfield 13, 3) := by decide +kernel
theorem dX9_goes_35 : decode cX9_goes 35 = .ok (.iconst 2, 1) := by decide +kernel
theorem dX9_goes_36 : decode cX9_goes 36 = .ok (.iaload, 1) := by decide +kernel
theorem dX9_goes_37 : decode cX9_goes 37 = .ok (.aload_n 0, 1) := by decide +kernel
theorem dX9_goes_38 : decode cX9_goes 38 = .ok (.iload_n 2, 1) := by decide +kernel
theorem dX9_goes_39 : decode cX9_goes 39 = .ok (.iconst 3, 1) := by decide +kernel
theorem dX9_goes_40 : decode cX9_goes 40 = .ok (.invokevirtual 42, 3) := by decide +kernel
theorem dX9_goes_43 : decode cX9_goes 43 = .ok (.ishr, 1) := by decide +kernel
theorem dX9_goes_44 : decode cX9_goes 44 = .ok (.iconst 1, 1) := by decide +kernel
theorem dX9_goes_45 : decode cX9_goes 45 = .ok (.iand, 1) := by decide +kernel
theorem dX9_goes_46 : decode cX9_goes 46 = .ok (.iconst 1, 1) := by decide +kernel
theorem dX9_goes_47 : decode cX9_goes 47 = .ok (.if_icmp .ne 14, 3) := by decide +kernel
theorem dX9_goes_50 : decode cX9_goes 50 = .ok (.aload_n 0, 1) := by decide +kernel
theorem dX9_goes_51 : decode cX9_goes 51 = .ok (.iload_n 2, 1) := by decide +kernel
theorem dX9_goes_52 : decode cX9_goes 52 = .ok (.aload_n 0, 1) := by decide +kernel
theorem dX9_goes_53 : decode cX9_goes 53 = .ok (.getfield 13, 3) := by decide +kernel
theorem dX9_goes_56 : decode cX9_goes 56 = .ok (.iconst 3, 1) := by decide +kernel
theorem dX9_goes_57 : decode cX9_goes 57 = .ok (.iaload, 1) := by decide +kernel
theorem dX9_goes_58 : decode cX9_goes 58 = .ok (.invokevirtual 107, 3) := by decide +kernel
theorem dX9_goes_61 : decode cX9_goes 61 = .ok (.iinc 2 1, 3) := by decide +kernel
theorem dX9_goes_64 : decode cX9_goes 64 = .ok (.goto (-55), 3) := by decide +kernel
theorem dX9_goes_67 : decode cX9_goes 67 = .ok (.iconst 0, 1) := by decide +kernel
theorem dX9_goes_68 : decode cX9_goes 68 = .ok (.istore_n 2, 1) := by decide +kernel
theorem dX9_goes_69 : decode cX9_goes 69 = .ok (.iload_n 2, 1) := by decide +kernel
theorem dX9_goes_70 : decode cX9_goes 70 = .ok (.iload_n 1, 1) := by decide +kernel
theorem dX9_goes_71 : decode cX9_goes 71 = .ok (.if_icmp .ge 32, 3) := by decide +kernel
theorem dX9_goes_74 : decode cX9_goes 74 = .ok (.aload_n 0, 1) := by decide +kernel
theorem dX9_goes_75 : decode cX9_goes 75 = .ok (.iload_n 2, 1) := by decide +kernel
theorem dX9_goes_76 : decode cX9_goes 76 = .ok (.iconst 4, 1) := by decide +kernel
theorem dX9_goes_77 : decode cX9_goes 77 = .ok (.invokevirtual 42, 3) := by decide +kernel
theorem dX9_goes_80 : decode cX9_goes 80 = .ok (.ifCond .le 17, 3) := by decide +kernel
theorem dX9_goes_83 : decode cX9_goes 83 = .ok (.aload_n 0, 1) := by decide +kernel
theorem dX9_goes_84 : decode cX9_goes 84 = .ok (.iload_n 2, 1) := by decide +kernel
theorem dX9_goes_85 : decode cX9_goes 85 = .ok (.iconst 4, 1) := by decide +kernel
theorem dX9_goes_86 : decode cX9_goes 86 = .ok (.aload_n 0, 1) := by decide +kernel
theorem dX9_goes_87 : decode cX9_goes 87 = .ok (.iload_n 2, 1) := by decide +kernel
theorem dX9_goes_88 : decode cX9_goes 88 = .ok (.iconst 4, 1) := by decide +kernel
theorem dX9_goes_89 : decode cX9_goes 89 = .ok (.invokevirtual 42, 3) := by decide +kernel
theorem dX9_goes_92 : decode cX9_goes 92 = .ok (.iconst 1, 1) := by decide +kernel
theorem dX9_goes_93 : decode cX9_goes 93 = .ok (.isub, 1) := by decide +kernel
theorem dX9_goes_94 : decode cX9_goes 94 = .ok (.invokevirtual 103, 3) := by decide +kernel
theorem dX9_goes_97 : decode cX9_goes 97 = .ok (.iinc 2 1, 3) := by decide +kernel
theorem dX9_goes_100 : decode cX9_goes 100 = .ok (.goto (-31), 3) := by decide +kernel
theorem dX9_goes_103 : decode cX9_goes 103 = .ok (.aload_n 0, 1) := by decide +kernel
theorem dX9_goes_104 : decode cX9_goes 104 = .ok (.getfield 13, 3) := by decide +kernel
theorem dX9_goes_107 : decode cX9_goes 107 = .ok (.iconst 4, 1) := by decide +kernel
theorem dX9_goes_108 : decode cX9_goes 108 = .ok (.iaload, 1) := by decide +kernel
theorem dX9_goes_109 : decode cX9_goes 109 = .ok (.iconst 3, 1) := by decide +kernel
theorem dX9_goes_110 : decode cX9_goes 110 = .ok (.irem, 1) := by decide +kernel
theorem dX9_goes_111 : decode cX9_goes 111 = .ok (.ifCond .ne 7, 3) := by decide +kernel
theorem dX9_goes_114 : decode cX9_goes 114 = .ok (.aload_n 0, 1) := by decide +kernel
theorem dX9_goes_115 : decode cX9_goes 115 = .ok (.invokevirtual 111, 3) := by decide +kernel
theorem dX9_goes_118 : decode cX9_goes 118 = .ok (.iconst 0, 1) := by decide +kernel
theorem dX9_goes_119 : decode cX9_goes 119 = .ok (.istore_n 2, 1) := by decide +kernel
theorem dX9_goes_120 : decode cX9_goes 120 = .ok (.iload_n 2, 1) := by decide +kernel
theorem dX9_goes_121 : decode cX9_goes 121 = .ok (.iload_n 1, 1) := by decide +kernel
theorem dX9_goes_122 : decode cX9_goes 122 = .ok (.if_icmp .ge 45, 3) := by decide +kernel
theorem dX9_goes_125 : decode cX9_goes 125 = .ok (.aload_n 0, 1) := by decide +kernel
theorem dX9_goes_126 : decode cX9_goes 126 = .ok (.getfield 13, 3) := by decide +kernel
theorem dX9_goes_129 : decode cX9_goes 129 = .ok (.iconst 4, 1) := by decide +kernel
theorem dX9_goes_130 : decode cX9_goes 130 = .ok (.iaload, 1) := by decide +kernel
theorem dX9_goes_131 : decode cX9_goes 131 = .ok (.iconst 5, 1) := by decide +kernel
theorem dX9_goes_132 : decode cX9_goes 132 = .ok (.irem, 1) := by decide +kernel
theorem dX9_goes_133 : decode cX9_goes 133 = .ok (.ifCond .ne 28, 3) := by decide +kernel
theorem dX9_goes_136 : decode cX9_goes 136 = .ok (.aload_n 0, 1) := by decide +kernel
theorem dX9_goes_137 : decode cX9_goes 137 = .ok (.iload_n 2, 1) := by decide +kernel
theorem dX9_goes_138 : decode cX9_goes 138 = .ok (.iconst 2, 1) := by decide +kernel
theorem dX9_goes_139 : decode cX9_goes 139 = .ok (.invokevirtual 42, 3) := by decide +kernel
theorem dX9_goes_142 : decode cX9_goes 142 = .ok (.bipush 9, 2) := by decide +kernel
theorem dX9_goes_144 : decode cX9_goes 144 = .ok (.if_icmp .ge 17, 3) := by decide +kernel
theorem dX9_goes_147 : decode cX9_goes 147 = .ok (.aload_n 0, 1) := by decide +kernel
theorem dX9_goes_148 : decode cX9_goes 148 = .ok (.iload_n 2, 1) := by decide +kernel
theorem dX9_goes_149 : decode cX9_goes 149 = .ok (.iconst 2, 1) := by decide +kernel
theorem dX9_goes_150 : decode cX9_goes 150 = .ok (.aload_n 0, 1) := by decide +kernel
theorem dX9_goes_151 : decode cX9_goes 151 = .ok (.iload_n 2, 1) := by decide +kernel
theorem dX9_goes_152 : decode cX9_goes 152 = .ok (.iconst 2, 1) := by decide +kernel
theorem dX9_goes_153 : decode cX9_goes 153 = .ok (.invokevirtual 42, 3) := by decide +kernel
theorem dX9_goes_156 : decode cX9_goes 156 = .ok (.iconst 1, 1) := by decide +kernel
theorem dX9_goes_157 : decode cX9_goes 157 = .ok (.iadd, 1) := by decide +kernel
theorem dX9_goes_158 : decode cX9_goes 158 = .ok (.invokevirtual 103, 3) := by decide +kernel
theorem dX9_goes_161 : decode cX9_goes 161 = .ok (.iinc 2 1, 3) := by decide +kernel
theorem dX9_goes_164 : decode cX9_goes 164 = .ok (.goto (-44), 3) := by decide +kernel
theorem dX9_goes_167 : decode cX9_goes 167 = .ok (.aload_n 0, 1) := by decide +kernel
theorem dX9_goes_168 : decode cX9_goes 168 = .ok (.getfield 13, 3) := by decide +kernel
theorem dX9_goes_171 : decode cX9_goes 171 = .ok (.iconst 4, 1) := by decide +kernel
theorem dX9_goes_172 : decode cX9_goes 172 = .ok (.dup2, 1) := by decide +kernel
theorem dX9_goes_173 : decode cX9_goes 173 = .ok (.iaload, 1) := by decide +kernel
theorem dX9_goes_174 : decode cX9_goes 174 = .ok (.iconst 1, 1) := by decide +kernel
theorem dX9_goes_175 : decode cX9_goes 175 = .ok (.iadd, 1) := by decide +kernel
theorem dX9_goes_176 : decode cX9_goes 176 = .ok (.iastore, 1) := by decide +kernel
theorem dX9_goes_177 : decode cX9_goes 177 = .ok (.return_, 1) := by decide +kernel
theorem dX9_goesFor_0 : decode cX9_goesFor 0 = .ok (.iconst 0, 1) := by decide +kernel
theorem dX9_goesFor_1 : decode cX9_goesFor 1 = .ok (.istore_n 2, 1) := by decide +kernel
theorem dX9_goesFor_2 : decode cX9_goesFor 2 = .ok (.iload_n 2, 1) := by decide +kernel
theorem dX9_goesFor_3 : decode cX9_goesFor 3 = .ok (.iload_n 1, 1) := by decide +kernel
theorem dX9_goesFor_4 : decode cX9_goesFor 4 = .ok (.if_icmp .ge 13, 3) := by decide +kernel
theorem dX9_goesFor_7 : decode cX9_goesFor 7 = .ok (.aload_n 0, 1) := by decide +kernel
theorem dX9_goesFor_8 : decode cX9_goesFor 8 = .ok (.invokevirtual 114, 3) := by decide +kernel
theorem dX9_goesFor_11 : decode cX9_goesFor 11 = .ok (.iinc 2 1, 3) := by decide +kernel
theorem dX9_goesFor_14 : decode cX9_goesFor 14 = .ok (.goto (-12), 3) := by decide +kernel
theorem dX9_goesFor_17 : decode cX9_goesFor 17 = .ok (.return_, 1) := by decide +kernel
theorem dX9_purseOf_0 : decode cX9_purseOf 0 = .ok (.iconst 0, 1) := by decide +kernel
theorem dX9_purseOf_1 : decode cX9_purseOf 1 = .ok (.istore_n 2, 1) := by decide +kernel
theorem dX9_purseOf_2 : decode cX9_purseOf 2 = .ok (.iconst 0, 1) := by decide +kernel
theorem dX9_purseOf_3 : decode cX9_purseOf 3 = .ok (.istore_n 3, 1) := by decide +kernel
theorem dX9_purseOf_4 : decode cX9_purseOf 4 = .ok (.iload_n 3, 1) := by decide +kernel
theorem dX9_purseOf_5 : decode cX9_purseOf 5 = .ok (.aload_n 0, 1) := by decide +kernel
theorem dX9_purseOf_6 : decode cX9_purseOf 6 = .ok (.getfield 13, 3) := by decide +kernel
theorem dX9_purseOf_9 : decode cX9_purseOf 9 = .ok (.iconst 1, 1) := by decide +kernel
theorem dX9_purseOf_10 : decode cX9_purseOf 10 = .ok (.iaload, 1) := by decide +kernel
theorem dX9_purseOf_11 : decode cX9_purseOf 11 = .ok (.if_icmp .ge 31, 3) := by decide +kernel
theorem dX9_purseOf_14 : decode cX9_purseOf 14 = .ok (.iload_n 2, 1) := by decide +kernel
theorem dX9_purseOf_15 : decode cX9_purseOf 15 = .ok (.aload_n 0, 1) := by decide +kernel
theorem dX9_purseOf_16 : decode cX9_purseOf 16 = .ok (.iload_n 3, 1) := by decide +kernel
theorem dX9_purseOf_17 : decode cX9_purseOf 17 = .ok (.iconst 3, 1) := by decide +kernel
theorem dX9_purseOf_18 : decode cX9_purseOf 18 = .ok (.invokevirtual 42, 3) := by decide +kernel
theorem dX9_purseOf_21 : decode cX9_purseOf 21 = .ok (.iload_n 1, 1) := by decide +kernel
theorem dX9_purseOf_22 : decode cX9_purseOf 22 = .ok (.if_icmp .ne 11, 3) := by decide +kernel
theorem dX9_purseOf_25 : decode cX9_purseOf 25 = .ok (.aload_n 0, 1) := by decide +kernel
theorem dX9_purseOf_26 : decode cX9_purseOf 26 = .ok (.iload_n 3, 1) := by decide +kernel
theorem dX9_purseOf_27 : decode cX9_purseOf 27 = .ok (.invokevirtual 117, 3) := by decide +kernel
theorem dX9_purseOf_30 : decode cX9_purseOf 30 = .ok (.goto 4, 3) := by decide +kernel
theorem dX9_purseOf_33 : decode cX9_purseOf 33 = .ok (.iconst 0, 1) := by decide +kernel
theorem dX9_purseOf_34 : decode cX9_purseOf 34 = .ok (.iadd, 1) := by decide +kernel
theorem dX9_purseOf_35 : decode cX9_purseOf 35 = .ok (.istore_n 2, 1) := by decide +kernel
theorem dX9_purseOf_36 : decode cX9_purseOf 36 = .ok (.iinc 3 1, 3) := by decide +kernel
theorem dX9_purseOf_39 : decode cX9_purseOf 39 = .ok (.goto (-35), 3) := by decide +kernel
theorem dX9_purseOf_42 : decode cX9_purseOf 42 = .ok (.iload_n 2, 1) := by decide +kernel
theorem dX9_purseOf_43 : decode cX9_purseOf 43 = .ok (.ireturn, 1) := by decide +kernel
theorem dX9_ownOf_0 : decode cX9_ownOf 0 = .ok (.iconst 0, 1) := by decide +kernel
theorem dX9_ownOf_1 : decode cX9_ownOf 1 = .ok (.istore_n 2, 1) := by decide +kernel
theorem dX9_ownOf_2 : decode cX9_ownOf 2 = .ok (.iconst 0, 1) := by decide +kernel
theorem dX9_ownOf_3 : decode cX9_ownOf 3 = .ok (.istore_n 3, 1) := by decide +kernel
theorem dX9_ownOf_4 : decode cX9_ownOf 4 = .ok (.iload_n 3, 1) := by decide +kernel
theorem dX9_ownOf_5 : decode cX9_ownOf 5 = .ok (.aload_n 0, 1) := by decide +kernel
theorem dX9_ownOf_6 : decode cX9_ownOf 6 = .ok (.getfield 13, 3) := by decide +kernel
theorem dX9_ownOf_9 : decode cX9_ownOf 9 = .ok (.iconst 1, 1) := by decide +kernel
theorem dX9_ownOf_10 : decode cX9_ownOf 10 = .ok (.iaload, 1) := by decide +kernel
theorem dX9_ownOf_11 : decode cX9_ownOf 11 = .ok (.if_icmp .ge 39, 3) := by decide +kernel
theorem dX9_ownOf_14 : decode cX9_ownOf 14 = .ok (.iload_n 2, 1) := by decide +kernel
theorem dX9_ownOf_15 : decode cX9_ownOf 15 = .ok (.aload_n 0, 1) := by decide +kernel
theorem dX9_ownOf_16 : decode cX9_ownOf 16 = .ok (.iload_n 3, 1) := by decide +kernel
theorem dX9_ownOf_17 : decode cX9_ownOf 17 = .ok (.iconst 1, 1) := by decide +kernel
theorem dX9_ownOf_18 : decode cX9_ownOf 18 = .ok (.invokevirtual 42, 3) := by decide +kernel
theorem dX9_ownOf_21 : decode cX9_ownOf 21 = .ok (.iload_n 1, 1) := by decide +kernel
theorem dX9_ownOf_22 : decode cX9_ownOf 22 = .ok (.if_icmp .ne 19, 3) := by decide +kernel
theorem dX9_ownOf_25 : decode cX9_ownOf 25 = .ok (.aload_n 0, 1) := by decide +kernel
theorem dX9_ownOf_26 : decode cX9_ownOf 26 = .ok (.iload_n 3, 1) := by decide +kernel
theorem dX9_ownOf_27 : decode cX9_ownOf 27 = .ok (.invokevirtual 94, 3) := by decide +kernel
theorem dX9_ownOf_30 : decode cX9_ownOf 30 = .ok (.ifCond .ne 11, 3) := by decide +kernel
theorem dX9_ownOf_33 : decode cX9_ownOf 33 = .ok (.aload_n 0, 1) := by decide +kernel
theorem dX9_ownOf_34 : decode cX9_ownOf 34 = .ok (.iload_n 3, 1) := by decide +kernel
theorem dX9_ownOf_35 : decode cX9_ownOf 35 = .ok (.invokevirtual 117, 3) := by decide +kernel
theorem dX9_ownOf_38 : decode cX9_ownOf 38 = .ok (.goto 4, 3) := by decide +kernel
theorem dX9_ownOf_41 : decode cX9_ownOf 41 = .ok (.iconst 0, 1) := by decide +kernel
theorem dX9_ownOf_42 : decode cX9_ownOf 42 = .ok (.iadd, 1) := by decide +kernel
theorem dX9_ownOf_43 : decode cX9_ownOf 43 = .ok (.istore_n 2, 1) := by decide +kernel
theorem dX9_ownOf_44 : decode cX9_ownOf 44 = .ok (.iinc 3 1, 3) := by decide +kernel
theorem dX9_ownOf_47 : decode cX9_ownOf 47 = .ok (.goto (-43), 3) := by decide +kernel
theorem dX9_ownOf_50 : decode cX9_ownOf 50 = .ok (.iload_n 2, 1) := by decide +kernel
theorem dX9_ownOf_51 : decode cX9_ownOf 51 = .ok (.ireturn, 1) := by decide +kernel
theorem dX9_loft_0 : decode cX9_loft 0 = .ok (.aload_n 0, 1) := by decide +kernel
theorem dX9_loft_1 : decode cX9_loft 1 = .ok (.iload_n 1, 1) := by decide +kernel
theorem dX9_loft_2 : decode cX9_loft 2 = .ok (.invokevirtual 120, 3) := by decide +kernel
theorem dX9_loft_5 : decode cX9_loft 5 = .ok (.ifCond .ne 9, 3) := by decide +kernel
theorem dX9_loft_8 : decode cX9_loft 8 = .ok (.aload_n 0, 1) := by decide +kernel
theorem dX9_loft_9 : decode cX9_loft 9 = .ok (.iconst (-1), 1) := by decide +kernel
theorem dX9_loft_10 : decode cX9_loft 10 = .ok (.invokevirtual 54, 3) := by decide +kernel
theorem dX9_loft_13 : decode cX9_loft 13 = .ok (.ireturn, 1) := by decide +kernel
theorem dX9_loft_14 : decode cX9_loft 14 = .ok (.iload_n 2, 1) := by decide +kernel
theorem dX9_loft_15 : decode cX9_loft 15 = .ok (.tableswitch 69 0 4 #[33, 33, 46, 57, 63], 33) := by decide +kernel
theorem dX9_loft_48 : decode cX9_loft 48 = .ok (.aload_n 0, 1) := by decide +kernel
theorem dX9_loft_49 : decode cX9_loft 49 = .ok (.getfield 13, 3) := by decide +kernel
theorem dX9_loft_52 : decode cX9_loft 52 = .ok (.iconst 5, 1) := by decide +kernel
theorem dX9_loft_53 : decode cX9_loft 53 = .ok (.iconst 2, 1) := by decide +kernel
theorem dX9_loft_54 : decode cX9_loft 54 = .ok (.iload_n 1, 1) := by decide +kernel
theorem dX9_loft_55 : decode cX9_loft 55 = .ok (.imul, 1) := by decide +kernel
theorem dX9_loft_56 : decode cX9_loft 56 = .ok (.iadd, 1) := by decide +kernel
theorem dX9_loft_57 : decode cX9_loft 57 = .ok (.iload_n 2, 1) := by decide +kernel
theorem dX9_loft_58 : decode cX9_loft 58 = .ok (.iadd, 1) := by decide +kernel
theorem dX9_loft_59 : decode cX9_loft 59 = .ok (.iaload, 1) := by decide +kernel
theorem dX9_loft_60 : decode cX9_loft 60 = .ok (.ireturn, 1) := by decide +kernel
theorem dX9_loft_61 : decode cX9_loft 61 = .ok (.aload_n 0, 1) := by decide +kernel
theorem dX9_loft_62 : decode cX9_loft 62 = .ok (.getfield 13, 3) := by decide +kernel
theorem dX9_loft_65 : decode cX9_loft 65 = .ok (.iconst 2, 1) := by decide +kernel
theorem dX9_loft_66 : decode cX9_loft 66 = .ok (.iaload, 1) := by decide +kernel
theorem dX9_loft_67 : decode cX9_loft 67 = .ok (.iload_n 1, 1) := by decide +kernel
theorem dX9_loft_68 : decode cX9_loft 68 = .ok (.ishr, 1) := by decide +kernel
theorem dX9_loft_69 : decode cX9_loft 69 = .ok (.iconst 1, 1) := by decide +kernel
theorem dX9_loft_70 : decode cX9_loft 70 = .ok (.iand, 1) := by decide +kernel
theorem dX9_loft_71 : decode cX9_loft 71 = .ok (.ireturn, 1) := by decide +kernel
theorem dX9_loft_72 : decode cX9_loft 72 = .ok (.aload_n 0, 1) := by decide +kernel
theorem dX9_loft_73 : decode cX9_loft 73 = .ok (.iload_n 1, 1) := by decide +kernel
theorem dX9_loft_74 : decode cX9_loft 74 = .ok (.invokevirtual 123, 3) := by decide +kernel
theorem dX9_loft_77 : decode cX9_loft 77 = .ok (.ireturn, 1) := by decide +kernel
theorem dX9_loft_78 : decode cX9_loft 78 = .ok (.aload_n 0, 1) := by decide +kernel
theorem dX9_loft_79 : decode cX9_loft 79 = .ok (.iload_n 1, 1) := by decide +kernel
theorem dX9_loft_80 : decode cX9_loft 80 = .ok (.invokevirtual 126, 3) := by decide +kernel
theorem dX9_loft_83 : decode cX9_loft 83 = .ok (.ireturn, 1) := by decide +kernel
theorem dX9_loft_84 : decode cX9_loft 84 = .ok (.aload_n 0, 1) := by decide +kernel
theorem dX9_loft_85 : decode cX9_loft 85 = .ok (.bipush (-2), 2) := by decide +kernel
theorem dX9_loft_87 : decode cX9_loft 87 = .ok (.invokevirtual 54, 3) := by decide +kernel
theorem dX9_loft_90 : decode cX9_loft 90 = .ok (.ireturn, 1) := by decide +kernel
theorem dX9_dove_0 : decode cX9_dove 0 = .ok (.aload_n 0, 1) := by decide +kernel
theorem dX9_dove_1 : decode cX9_dove 1 = .ok (.iload_n 1, 1) := by decide +kernel
theorem dX9_dove_2 : decode cX9_dove 2 = .ok (.invokevirtual 129, 3) := by decide +kernel
theorem dX9_dove_5 : decode cX9_dove 5 = .ok (.ifCond .ne 9, 3) := by decide +kernel
theorem dX9_dove_8 : decode cX9_dove 8 = .ok (.aload_n 0, 1) := by decide +kernel
theorem dX9_dove_9 : decode cX9_dove 9 = .ok (.iconst (-1), 1) := by decide +kernel
theorem dX9_dove_10 : decode cX9_dove 10 = .ok (.invokevirtual 54, 3) := by decide +kernel
theorem dX9_dove_13 : decode cX9_dove 13 = .ok (.ireturn, 1) := by decide +kernel
theorem dX9_dove_14 : decode cX9_dove 14 = .ok (.iload_n 2, 1) := by decide +kernel
theorem dX9_dove_15 : decode cX9_dove 15 = .ok (.tableswitch 60 0 6 #[41, 41, 41, 41, 41, 48, 54], 41) := by decide +kernel
theorem dX9_dove_56 : decode cX9_dove 56 = .ok (.aload_n 0, 1) := by decide +kernel
theorem dX9_dove_57 : decode cX9_dove 57 = .ok (.iload_n 1, 1) := by decide +kernel
theorem dX9_dove_58 : decode cX9_dove 58 = .ok (.iload_n 2, 1) := by decide +kernel
theorem dX9_dove_59 : decode cX9_dove 59 = .ok (.invokevirtual 42, 3) := by decide +kernel
theorem dX9_dove_62 : decode cX9_dove 62 = .ok (.ireturn, 1) := by decide +kernel
theorem dX9_dove_63 : decode cX9_dove 63 = .ok (.aload_n 0, 1) := by decide +kernel
theorem dX9_dove_64 : decode cX9_dove 64 = .ok (.iload_n 1, 1) := by decide +kernel
theorem dX9_dove_65 : decode cX9_dove 65 = .ok (.invokevirtual 117, 3) := by decide +kernel
theorem dX9_dove_68 : decode cX9_dove 68 = .ok (.ireturn, 1) := by decide +kernel
theorem dX9_dove_69 : decode cX9_dove 69 = .ok (.aload_n 0, 1) := by decide +kernel
theorem dX9_dove_70 : decode cX9_dove 70 = .ok (.iload_n 1, 1) := by decide +kernel
theorem dX9_dove_71 : decode cX9_dove 71 = .ok (.invokevirtual 100, 3) := by decide +kernel
theorem dX9_dove_74 : decode cX9_dove 74 = .ok (.ireturn, 1) := by decide +kernel
theorem dX9_dove_75 : decode cX9_dove 75 = .ok (.aload_n 0, 1) := by decide +kernel
theorem dX9_dove_76 : decode cX9_dove 76 = .ok (.bipush (-2), 2) := by decide +kernel
theorem dX9_dove_78 : decode cX9_dove 78 = .ok (.invokevirtual 54, 3) := by decide +kernel
theorem dX9_dove_81 : decode cX9_dove 81 = .ok (.ireturn, 1) := by decide +kernel
theorem dX9_open_0 : decode cX9_open 0 = .ok (.aload_n 0, 1) := by decide +kernel
theorem dX9_open_1 : decode cX9_open 1 = .ok (.iload_n 1, 1) := by decide +kernel
theorem dX9_open_2 : decode cX9_open 2 = .ok (.invokevirtual 120, 3) := by decide +kernel
theorem dX9_open_5 : decode cX9_open 5 = .ok (.ifCond .ne 7, 3) := by decide +kernel
theorem dX9_open_8 : decode cX9_open 8 = .ok (.iconst (-1), 1) := by decide +kernel
theorem dX9_open_9 : decode cX9_open 9 = .ok (.goto 17, 3) := by decide +kernel
theorem dX9_open_12 : decode cX9_open 12 = .ok (.iload_n 2, 1) := by decide +kernel
theorem dX9_open_13 : decode cX9_open 13 = .ok (.iconst 2, 1) := by decide +kernel
theorem dX9_open_14 : decode cX9_open 14 = .ok (.invokestatic 38, 3) := by decide +kernel
theorem dX9_open_17 : decode cX9_open 17 = .ok (.ifCond .eq 7, 3) := by decide +kernel
theorem dX9_open_20 : decode cX9_open 20 = .ok (.iconst 0, 1) := by decide +kernel
theorem dX9_open_21 : decode cX9_open 21 = .ok (.goto 5, 3) := by decide +kernel
theorem dX9_open_24 : decode cX9_open 24 = .ok (.bipush (-2), 2) := by decide +kernel
theorem dX9_open_26 : decode cX9_open 26 = .ok (.istore_n 3, 1) := by decide +kernel
theorem dX9_open_27 : decode cX9_open 27 = .ok (.iload_n 3, 1) := by decide +kernel
theorem dX9_open_28 : decode cX9_open 28 = .ok (.ifCond .eq 9, 3) := by decide +kernel
theorem dX9_open_31 : decode cX9_open 31 = .ok (.aload_n 0, 1) := by decide +kernel
theorem dX9_open_32 : decode cX9_open 32 = .ok (.iload_n 3, 1) := by decide +kernel
theorem dX9_open_33 : decode cX9_open 33 = .ok (.invokevirtual 54, 3) := by decide +kernel
theorem dX9_open_36 : decode cX9_open 36 = .ok (.ireturn, 1) := by decide +kernel
theorem dX9_open_37 : decode cX9_open 37 = .ok (.aload_n 0, 1) := by decide +kernel
theorem dX9_open_38 : decode cX9_open 38 = .ok (.getfield 13, 3) := by decide +kernel
theorem dX9_open_41 : decode cX9_open 41 = .ok (.iconst 2, 1) := by decide +kernel
theorem dX9_open_42 : decode cX9_open 42 = .ok (.iaload, 1) := by decide +kernel
theorem dX9_open_43 : decode cX9_open 43 = .ok (.iload_n 1, 1) := by decide +kernel
theorem dX9_open_44 : decode cX9_open 44 = .ok (.ishr, 1) := by decide +kernel
theorem dX9_open_45 : decode cX9_open 45 = .ok (.iconst 1, 1) := by decide +kernel
theorem dX9_open_46 : decode cX9_open 46 = .ok (.iand, 1) := by decide +kernel
theorem dX9_open_47 : decode cX9_open 47 = .ok (.istore 4, 2) := by decide +kernel
theorem dX9_open_49 : decode cX9_open 49 = .ok (.aload_n 0, 1) := by decide +kernel
theorem dX9_open_50 : decode cX9_open 50 = .ok (.getfield 13, 3) := by decide +kernel
theorem dX9_open_53 : decode cX9_open 53 = .ok (.iconst 2, 1) := by decide +kernel
theorem dX9_open_54 : decode cX9_open 54 = .ok (.iload_n 2, 1) := by decide +kernel
theorem dX9_open_55 : decode cX9_open 55 = .ok (.iconst 1, 1) := by decide +kernel
theorem dX9_open_56 : decode cX9_open 56 = .ok (.if_icmp .ne 16, 3) := by decide +kernel
theorem dX9_open_59 : decode cX9_open 59 = .ok (.aload_n 0, 1) := by decide +kernel
theorem dX9_open_60 : decode cX9_open 60 = .ok (.getfield 13, 3) := by decide +kernel
theorem dX9_open_63 : decode cX9_open 63 = .ok (.iconst 2, 1) := by decide +kernel
theorem dX9_open_64 : decode cX9_open 64 = .ok (.iaload, 1) := by decide +kernel
theorem dX9_open_65 : decode cX9_open 65 = .ok (.iconst 1, 1) := by decide +kernel
theorem dX9_open_66 : decode cX9_open 66 = .ok (.iload_n 1, 1) := by decide +kernel
theorem dX9_open_67 : decode cX9_open 67 = .ok (.ishl, 1) := by decide +kernel
theorem dX9_open_68 : decode cX9_open 68 = .ok (.ior, 1) := by decide +kernel
theorem dX9_open_69 : decode cX9_open 69 = .ok (.goto 15, 3) := by decide +kernel
theorem dX9_open_72 : decode cX9_open 72 = .ok (.aload_n 0, 1) := by decide +kernel
theorem dX9_open_73 : decode cX9_open 73 = .ok (.getfield 13, 3) := by decide +kernel
theorem dX9_open_76 : decode cX9_open 76 = .ok (.iconst 2, 1) := by decide +kernel
theorem dX9_open_77 : decode cX9_open 77 = .ok (.iaload, 1) := by decide +kernel
theorem dX9_open_78 : decode cX9_open 78 = .ok (.iconst 1, 1) := by decide +kernel
theorem dX9_open_79 : decode cX9_open 79 = .ok (.iload_n 1, 1) := by decide +kernel
theorem dX9_open_80 : decode cX9_open 80 = .ok (.ishl, 1) := by decide +kernel
theorem dX9_open_81 : decode cX9_open 81 = .ok (.iconst (-1), 1) := by decide +kernel
theorem dX9_open_82 : decode cX9_open 82 = .ok (.ixor, 1) := by decide +kernel
theorem dX9_open_83 : decode cX9_open 83 = .ok (.iand, 1) := by decide +kernel
theorem dX9_open_84 : decode cX9_open 84 = .ok (.iastore, 1) := by decide +kernel
theorem dX9_open_85 : decode cX9_open 85 = .ok (.iload 4, 2) := by decide +kernel
theorem dX9_open_87 : decode cX9_open 87 = .ok (.ireturn, 1) := by decide +kernel
theorem dX9_hawk_0 : decode cX9_hawk 0 = .ok (.iload_n 1, 1) := by decide +kernel
theorem dX9_hawk_1 : decode cX9_hawk 1 = .ok (.iconst 0, 1) := by decide +kernel
theorem dX9_hawk_2 : decode cX9_hawk 2 = .ok (.bipush 20, 2) := by decide +kernel
theorem dX9_hawk_4 : decode cX9_hawk 4 = .ok (.invokestatic 46, 3) := by decide +kernel
theorem dX9_hawk_7 : decode cX9_hawk 7 = .ok (.istore_n 2, 1) := by decide +kernel
theorem dX9_hawk_8 : decode cX9_hawk 8 = .ok (.iload_n 2, 1) := by decide +kernel
theorem dX9_hawk_9 : decode cX9_hawk 9 = .ok (.ifCond .eq 9, 3) := by decide +kernel
theorem dX9_hawk_12 : decode cX9_hawk 12 = .ok (.aload_n 0, 1) := by decide +kernel
theorem dX9_hawk_13 : decode cX9_hawk 13 = .ok (.iload_n 2, 1) := by decide +kernel
theorem dX9_hawk_14 : decode cX9_hawk 14 = .ok (.invokevirtual 54, 3) := by decide +kernel
theorem dX9_hawk_17 : decode cX9_hawk 17 = .ok (.ireturn, 1) := by decide +kernel
theorem dX9_hawk_18 : decode cX9_hawk 18 = .ok (.aload_n 0, 1) := by decide +kernel
theorem dX9_hawk_19 : decode cX9_hawk 19 = .ok (.getfield 13, 3) := by decide +kernel
theorem dX9_hawk_22 : decode cX9_hawk 22 = .ok (.iconst 3, 1) := by decide +kernel
theorem dX9_hawk_23 : decode cX9_hawk 23 = .ok (.iaload, 1) := by decide +kernel
theorem dX9_hawk_24 : decode cX9_hawk 24 = .ok (.istore_n 3, 1) := by decide +kernel
theorem dX9_hawk_25 : decode cX9_hawk 25 = .ok (.aload_n 0, 1) := by decide +kernel
theorem dX9_hawk_26 : decode cX9_hawk 26 = .ok (.getfield 13, 3) := by decide +kernel
theorem dX9_hawk_29 : decode cX9_hawk 29 = .ok (.iconst 3, 1) := by decide +kernel
theorem dX9_hawk_30 : decode cX9_hawk 30 = .ok (.iload_n 1, 1) := by decide +kernel
theorem dX9_hawk_31 : decode cX9_hawk 31 = .ok (.iastore, 1) := by decide +kernel
theorem dX9_hawk_32 : decode cX9_hawk 32 = .ok (.iload_n 3, 1) := by decide +kernel
theorem dX9_hawk_33 : decode cX9_hawk 33 = .ok (.ireturn, 1) := by decide +kernel
theorem dX9_carry_0 : decode cX9_carry 0 = .ok (.aload_n 0, 1) := by decide +kernel
theorem dX9_carry_1 : decode cX9_carry 1 = .ok (.iload_n 1, 1) := by decide +kernel
theorem dX9_carry_2 : decode cX9_carry 2 = .ok (.invokevirtual 129, 3) := by decide +kernel
theorem dX9_carry_5 : decode cX9_carry 5 = .ok (.ifCond .eq 11, 3) := by decide +kernel
theorem dX9_carry_8 : decode cX9_carry 8 = .ok (.aload_n 0, 1) := by decide +kernel
theorem dX9_carry_9 : decode cX9_carry 9 = .ok (.iload_n 2, 1) := by decide +kernel
theorem dX9_carry_10 : decode cX9_carry 10 = .ok (.invokevirtual 120, 3) := by decide +kernel
theorem dX9_carry_13 : decode cX9_carry 13 = .ok (.ifCond .ne 7, 3) := by decide +kernel
theorem dX9_carry_16 : decode cX9_carry 16 = .ok (.iconst (-1), 1) := by decide +kernel
theorem dX9_carry_17 : decode cX9_carry 17 = .ok (.goto 17, 3) := by decide +kernel
theorem dX9_carry_20 : decode cX9_carry 20 = .ok (.aload_n 0, 1) := by decide +kernel
theorem dX9_carry_21 : decode cX9_carry 21 = .ok (.iload_n 1, 1) := by decide +kernel
theorem dX9_carry_22 : decode cX9_carry 22 = .ok (.invokevirtual 94, 3) := by decide +kernel
theorem dX9_carry_25 : decode cX9_carry 25 = .ok (.ifCond .eq 8, 3) := by decide +kernel
theorem dX9_carry_28 : decode cX9_carry 28 = .ok (.bipush (-3), 2) := by decide +kernel
theorem dX9_carry_30 : decode cX9_carry 30 = .ok (.goto 4, 3) := by decide +kernel
theorem dX9_carry_33 : decode cX9_carry 33 = .ok (.iconst 0, 1) := by decide +kernel
theorem dX9_carry_34 : decode cX9_carry 34 = .ok (.istore_n 3, 1) := by decide +kernel
theorem dX9_carry_35 : decode cX9_carry 35 = .ok (.iload_n 3, 1) := by decide +kernel
theorem dX9_carry_36 : decode cX9_carry 36 = .ok (.ifCond .eq 9, 3) := by decide +kernel
theorem dX9_carry_39 : decode cX9_carry 39 = .ok (.aload_n 0, 1) := by decide +kernel
theorem dX9_carry_40 : decode cX9_carry 40 = .ok (.iload_n 3, 1) := by decide +kernel
theorem dX9_carry_41 : decode cX9_carry 41 = .ok (.invokevirtual 54, 3) := by decide +kernel
theorem dX9_carry_44 : decode cX9_carry 44 = .ok (.ireturn, 1) := by decide +kernel
theorem dX9_carry_45 : decode cX9_carry 45 = .ok (.aload_n 0, 1) := by decide +kernel
theorem dX9_carry_46 : decode cX9_carry 46 = .ok (.iload_n 1, 1) := by decide +kernel
theorem dX9_carry_47 : decode cX9_carry 47 = .ok (.iconst 3, 1) := by decide +kernel
theorem dX9_carry_48 : decode cX9_carry 48 = .ok (.invokevirtual 42, 3) := by decide +kernel
theorem dX9_carry_51 : decode cX9_carry 51 = .ok (.istore 4, 2) := by decide +kernel
theorem dX9_carry_53 : decode cX9_carry 53 = .ok (.aload_n 0, 1) := by decide +kernel
theorem dX9_carry_54 : decode cX9_carry 54 = .ok (.iload_n 1, 1) := by decide +kernel
theorem dX9_carry_55 : decode cX9_carry 55 = .ok (.iconst 3, 1) := by decide +kernel
theorem dX9_carry_56 : decode cX9_carry 56 = .ok (.iload_n 2, 1) := by decide +kernel
theorem dX9_carry_57 : decode cX9_carry 57 = .ok (.invokevirtual 103, 3) := by decide +kernel
theorem dX9_carry_60 : decode cX9_carry 60 = .ok (.iload 4, 2) := by decide +kernel
theorem dX9_carry_62 : decode cX9_carry 62 = .ok (.ireturn, 1) := by decide +kernel
theorem dX9_clip_0 : decode cX9_clip 0 = .ok (.aload_n 0, 1) := by decide +kernel
theorem dX9_clip_1 : decode cX9_clip 1 = .ok (.iload_n 1, 1) := by decide +kernel
theorem dX9_clip_2 : decode cX9_clip 2 = .ok (.invokevirtual 129, 3) := by decide +kernel
theorem dX9_clip_5 : decode cX9_clip 5 = .ok (.ifCond .eq 13, 3) := by decide +kernel
theorem dX9_clip_8 : decode cX9_clip 8 = .ok (.iload_n 2, 1) := by decide +kernel
theorem dX9_clip_9 : decode cX9_clip 9 = .ok (.iconst 0, 1) := by decide +kernel
theorem dX9_clip_10 : decode cX9_clip 10 = .ok (.bipush 9, 2) := by decide +kernel
theorem dX9_clip_12 : decode cX9_clip 12 = .ok (.invokestatic 46, 3) := by decide +kernel
theorem dX9_clip_15 : decode cX9_clip 15 = .ok (.goto 4, 3) := by decide +kernel
theorem dX9_clip_18 : decode cX9_clip 18 = .ok (.iconst (-1), 1) := by decide +kernel
theorem dX9_clip_19 : decode cX9_clip 19 = .ok (.istore_n 3, 1) := by decide +kernel
theorem dX9_clip_20 : decode cX9_clip 20 = .ok (.iload_n 3, 1) := by decide +kernel
theorem dX9_clip_21 : decode cX9_clip 21 = .ok (.ifCond .eq 9, 3) := by decide +kernel
theorem dX9_clip_24 : decode cX9_clip 24 = .ok (.aload_n 0, 1) := by decide +kernel
theorem dX9_clip_25 : decode cX9_clip 25 = .ok (.iload_n 3, 1) := by decide +kernel
theorem dX9_clip_26 : decode cX9_clip 26 = .ok (.invokevirtual 54, 3) := by decide +kernel
theorem dX9_clip_29 : decode cX9_clip 29 = .ok (.ireturn, 1) := by decide +kernel
theorem dX9_clip_30 : decode cX9_clip 30 = .ok (.aload_n 0, 1) := by decide +kernel
theorem dX9_clip_31 : decode cX9_clip 31 = .ok (.iload_n 1, 1) := by decide +kernel
theorem dX9_clip_32 : decode cX9_clip 32 = .ok (.iconst 4, 1) := by decide +kernel
theorem dX9_clip_33 : decode cX9_clip 33 = .ok (.invokevirtual 42, 3) := by decide +kernel
theorem dX9_clip_36 : decode cX9_clip 36 = .ok (.istore 4, 2) := by decide +kernel
theorem dX9_clip_38 : decode cX9_clip 38 = .ok (.aload_n 0, 1) := by decide +kernel
theorem dX9_clip_39 : decode cX9_clip 39 = .ok (.iload_n 1, 1) := by decide +kernel
theorem dX9_clip_40 : decode cX9_clip 40 = .ok (.iconst 4, 1) := by decide +kernel
theorem dX9_clip_41 : decode cX9_clip 41 = .ok (.iload_n 2, 1) := by decide +kernel
theorem dX9_clip_42 : decode cX9_clip 42 = .ok (.invokevirtual 103, 3) := by decide +kernel
theorem dX9_clip_45 : decode cX9_clip 45 = .ok (.iload 4, 2) := by decide +kernel
theorem dX9_clip_47 : decode cX9_clip 47 = .ok (.ireturn, 1) := by decide +kernel
theorem dX9_go_0 : decode cX9_go 0 = .ok (.aload_n 0, 1) := by decide +kernel
theorem dX9_go_1 : decode cX9_go 1 = .ok (.iload_n 1, 1) := by decide +kernel
theorem dX9_go_2 : decode cX9_go 2 = .ok (.invokevirtual 129, 3) := by decide +kernel
theorem dX9_go_5 : decode cX9_go 5 = .ok (.ifCond .ne 7, 3) := by decide +kernel
theorem dX9_go_8 : decode cX9_go 8 = .ok (.iconst (-1), 1) := by decide +kernel
theorem dX9_go_9 : decode cX9_go 9 = .ok (.goto 26, 3) := by decide +kernel
theorem dX9_go_12 : decode cX9_go 12 = .ok (.aload_n 0, 1) := by decide +kernel
theorem dX9_go_13 : decode cX9_go 13 = .ok (.iload_n 1, 1) := by decide +kernel
theorem dX9_go_14 : decode cX9_go 14 = .ok (.invokevirtual 94, 3) := by decide +kernel
theorem dX9_go_17 : decode cX9_go 17 = .ok (.ifCond .ne 12, 3) := by decide +kernel
theorem dX9_go_20 : decode cX9_go 20 = .ok (.aload_n 0, 1) := by decide +kernel
theorem dX9_go_21 : decode cX9_go 21 = .ok (.iload_n 1, 1) := by decide +kernel
theorem dX9_go_22 : decode cX9_go 22 = .ok (.iconst 4, 1) := by decide +kernel
theorem dX9_go_23 : decode cX9_go 23 = .ok (.invokevirtual 42, 3) := by decide +kernel
theorem dX9_go_26 : decode cX9_go 26 = .ok (.ifCond .le 8, 3) := by decide +kernel
theorem dX9_go_29 : decode cX9_go 29 = .ok (.bipush (-3), 2) := by decide +kernel
theorem dX9_go_31 : decode cX9_go 31 = .ok (.goto 4, 3) := by decide +kernel
theorem dX9_go_34 : decode cX9_go 34 = .ok (.iconst 0, 1) := by decide +kernel
theorem dX9_go_35 : decode cX9_go 35 = .ok (.istore_n 2, 1) := by decide +kernel
theorem dX9_go_36 : decode cX9_go 36 = .ok (.iload_n 2, 1) := by decide +kernel
theorem dX9_go_37 : decode cX9_go 37 = .ok (.ifCond .eq 9, 3) := by decide +kernel
theorem dX9_go_40 : decode cX9_go 40 = .ok (.aload_n 0, 1) := by decide +kernel
theorem dX9_go_41 : decode cX9_go 41 = .ok (.iload_n 2, 1) := by decide +kernel
theorem dX9_go_42 : decode cX9_go 42 = .ok (.invokevirtual 54, 3) := by decide +kernel
theorem dX9_go_45 : decode cX9_go 45 = .ok (.ireturn, 1) := by decide +kernel
theorem dX9_go_46 : decode cX9_go 46 = .ok (.aload_n 0, 1) := by decide +kernel
theorem dX9_go_47 : decode cX9_go 47 = .ok (.iload_n 1, 1) := by decide +kernel
theorem dX9_go_48 : decode cX9_go 48 = .ok (.bipush 99, 2) := by decide +kernel
theorem dX9_go_50 : decode cX9_go 50 = .ok (.invokevirtual 107, 3) := by decide +kernel
theorem dX9_go_53 : decode cX9_go 53 = .ok (.aload_n 0, 1) := by decide +kernel
theorem dX9_go_54 : decode cX9_go 54 = .ok (.iload_n 1, 1) := by decide +kernel
theorem dX9_go_55 : decode cX9_go 55 = .ok (.iconst 3, 1) := by decide +kernel
theorem dX9_go_56 : decode cX9_go 56 = .ok (.invokevirtual 42, 3) := by decide +kernel
theorem dX9_go_59 : decode cX9_go 59 = .ok (.ireturn, 1) := by decide +kernel
theorem dX9_dusk_0 : decode cX9_dusk 0 = .ok (.aload_n 0, 1) := by decide +kernel
theorem dX9_dusk_1 : decode cX9_dusk 1 = .ok (.getfield 13, 3) := by decide +kernel
theorem dX9_dusk_4 : decode cX9_dusk 4 = .ok (.iconst 4, 1) := by decide +kernel
theorem dX9_dusk_5 : decode cX9_dusk 5 = .ok (.iaload, 1) := by decide +kernel
theorem dX9_dusk_6 : decode cX9_dusk 6 = .ok (.sipush 999, 3) := by decide +kernel
theorem dX9_dusk_9 : decode cX9_dusk 9 = .ok (.if_icmp .ne 10, 3) := by decide +kernel
theorem dX9_dusk_12 : decode cX9_dusk 12 = .ok (.aload_n 0, 1) := by decide +kernel
theorem dX9_dusk_13 : decode cX9_dusk 13 = .ok (.bipush (-6), 2) := by decide +kernel
theorem dX9_dusk_15 : decode cX9_dusk 15 = .ok (.invokevirtual 54, 3) := by decide +kernel
theorem dX9_dusk_18 : decode cX9_dusk 18 = .ok (.ireturn, 1) := by decide +kernel
theorem dX9_dusk_19 : decode cX9_dusk 19 = .ok (.aload_n 0, 1) := by decide +kernel
theorem dX9_dusk_20 : decode cX9_dusk 20 = .ok (.invokevirtual 132, 3) := by decide +kernel
theorem dX9_dusk_23 : decode cX9_dusk 23 = .ok (.istore_n 1, 1) := by decide +kernel
theorem dX9_dusk_24 : decode cX9_dusk 24 = .ok (.aload_n 0, 1) := by decide +kernel
theorem dX9_dusk_25 : decode cX9_dusk 25 = .ok (.invokevirtual 114, 3) := by decide +kernel
theorem dX9_dusk_28 : decode cX9_dusk 28 = .ok (.aload_n 0, 1) := by decide +kernel
theorem dX9_dusk_29 : decode cX9_dusk 29 = .ok (.invokevirtual 132, 3) := by decide +kernel
theorem dX9_dusk_32 : decode cX9_dusk 32 = .ok (.iload_n 1, 1) := by decide +kernel
theorem dX9_dusk_33 : decode cX9_dusk 33 = .ok (.isub, 1) := by decide +kernel
theorem dX9_dusk_34 : decode cX9_dusk 34 = .ok (.ireturn, 1) := by decide +kernel
theorem dX9_way_0 : decode cX9_way 0 = .ok (.aload_n 0, 1) := by decide +kernel
theorem dX9_way_1 : decode cX9_way 1 = .ok (.iload_n 1, 1) := by decide +kernel
theorem dX9_way_2 : decode cX9_way 2 = .ok (.invokevirtual 120, 3) := by decide +kernel
theorem dX9_way_5 : decode cX9_way 5 = .ok (.ifCond .eq 20, 3) := by decide +kernel
theorem dX9_way_8 : decode cX9_way 8 = .ok (.aload_n 0, 1) := by decide +kernel
theorem dX9_way_9 : decode cX9_way 9 = .ok (.iload_n 2, 1) := by decide +kernel
theorem dX9_way_10 : decode cX9_way 10 = .ok (.invokevirtual 120, 3) := by decide +kernel
theorem dX9_way_13 : decode cX9_way 13 = .ok (.ifCond .eq 12, 3) := by decide +kernel
theorem dX9_way_16 : decode cX9_way 16 = .ok (.aload_n 0, 1) := by decide +kernel
theorem dX9_way_17 : decode cX9_way 17 = .ok (.iload_n 1, 1) := by decide +kernel
theorem dX9_way_18 : decode cX9_way 18 = .ok (.iload_n 2, 1) := by decide +kernel
theorem dX9_way_19 : decode cX9_way 19 = .ok (.invokevirtual 91, 3) := by decide +kernel
theorem dX9_way_22 : decode cX9_way 22 = .ok (.goto 8, 3) := by decide +kernel
theorem dX9_way_25 : decode cX9_way 25 = .ok (.aload_n 0, 1) := by decide +kernel
theorem dX9_way_26 : decode cX9_way 26 = .ok (.iconst (-1), 1) := by decide +kernel
theorem dX9_way_27 : decode cX9_way 27 = .ok (.invokevirtual 54, 3) := by decide +kernel
theorem dX9_way_30 : decode cX9_way 30 = .ok (.ireturn, 1) := by decide +kernel
theorem dX9_purse_0 : decode cX9_purse 0 = .ok (.aload_n 0, 1) := by decide +kernel
theorem dX9_purse_1 : decode cX9_purse 1 = .ok (.iload_n 1, 1) := by decide +kernel
theorem dX9_purse_2 : decode cX9_purse 2 = .ok (.invokevirtual 120, 3) := by decide +kernel
theorem dX9_purse_5 : decode cX9_purse 5 = .ok (.ifCond .eq 13, 3) := by decide +kernel
theorem dX9_purse_8 : decode cX9_purse 8 = .ok (.iload_n 2, 1) := by decide +kernel
theorem dX9_purse_9 : decode cX9_purse 9 = .ok (.iconst 0, 1) := by decide +kernel
theorem dX9_purse_10 : decode cX9_purse 10 = .ok (.bipush 40, 2) := by decide +kernel
theorem dX9_purse_12 : decode cX9_purse 12 = .ok (.invokestatic 46, 3) := by decide +kernel
theorem dX9_purse_15 : decode cX9_purse 15 = .ok (.goto 4, 3) := by decide +kernel
theorem dX9_purse_18 : decode cX9_purse 18 = .ok (.iconst (-1), 1) := by decide +kernel
theorem dX9_purse_19 : decode cX9_purse 19 = .ok (.istore_n 3, 1) := by decide +kernel
theorem dX9_purse_20 : decode cX9_purse 20 = .ok (.iload_n 3, 1) := by decide +kernel
theorem dX9_purse_21 : decode cX9_purse 21 = .ok (.ifCond .eq 9, 3) := by decide +kernel
theorem dX9_purse_24 : decode cX9_purse 24 = .ok (.aload_n 0, 1) := by decide +kernel
theorem dX9_purse_25 : decode cX9_purse 25 = .ok (.iload_n 3, 1) := by decide +kernel
theorem dX9_purse_26 : decode cX9_purse 26 = .ok (.invokevirtual 54, 3) := by decide +kernel
theorem dX9_purse_29 : decode cX9_purse 29 = .ok (.ireturn, 1) := by decide +kernel
theorem dX9_purse_30 : decode cX9_purse 30 = .ok (.aload_n 0, 1) := by decide +kernel
theorem dX9_purse_31 : decode cX9_purse 31 = .ok (.invokevirtual 135, 3) := by decide +kernel
theorem dX9_purse_34 : decode cX9_purse 34 = .ok (.aload_n 0, 1) := by decide +kernel
theorem dX9_purse_35 : decode cX9_purse 35 = .ok (.iload_n 2, 1) := by decide +kernel
theorem dX9_purse_36 : decode cX9_purse 36 = .ok (.invokevirtual 138, 3) := by decide +kernel
theorem dX9_purse_39 : decode cX9_purse 39 = .ok (.aload_n 0, 1) := by decide +kernel
theorem dX9_purse_40 : decode cX9_purse 40 = .ok (.iload_n 1, 1) := by decide +kernel
theorem dX9_purse_41 : decode cX9_purse 41 = .ok (.invokevirtual 123, 3) := by decide +kernel
theorem dX9_purse_44 : decode cX9_purse 44 = .ok (.istore 4, 2) := by decide +kernel
theorem dX9_purse_46 : decode cX9_purse 46 = .ok (.aload_n 0, 1) := by decide +kernel
theorem dX9_purse_47 : decode cX9_purse 47 = .ok (.invokevirtual 142, 3) := by decide +kernel
theorem dX9_purse_50 : decode cX9_purse 50 = .ok (.iload 4, 2) := by decide +kernel
theorem dX9_purse_52 : decode cX9_purse 52 = .ok (.ireturn, 1) := by decide +kernel
theorem dX9_letting_0 : decode cX9_letting 0 = .ok (.aload_n 0, 1) := by decide +kernel
theorem dX9_letting_1 : decode cX9_letting 1 = .ok (.iload_n 1, 1) := by decide +kernel
theorem dX9_letting_2 : decode cX9_letting 2 = .ok (.invokevirtual 120, 3) := by decide +kernel
theorem dX9_letting_5 : decode cX9_letting 5 = .ok (.ifCond .ne 12, 3) := by decide +kernel
theorem dX9_letting_8 : decode cX9_letting 8 = .ok (.ldc 145, 2) := by decide +kernel
theorem dX9_letting_10 : decode cX9_letting 10 = .ok (.aload_n 0, 1) := by decide +kernel
theorem dX9_letting_11 : decode cX9_letting 11 = .ok (.iconst (-1), 1) := by decide +kernel
theorem dX9_letting_12 : decode cX9_letting 12 = .ok (.invokevirtual 54, 3) := by decide +kernel
theorem dX9_letting_15 : decode cX9_letting 15 = .ok (.isub, 1) := by decide +kernel
theorem dX9_letting_16 : decode cX9_letting 16 = .ok (.ireturn, 1) := by decide +kernel
theorem dX9_letting_17 : decode cX9_letting 17 = .ok (.aload_n 0, 1) := by decide +kernel
theorem dX9_letting_18 : decode cX9_letting 18 = .ok (.invokevirtual 135, 3) := by decide +kernel
theorem dX9_letting_21 : decode cX9_letting 21 = .ok (.aload_n 0, 1) := by decide +kernel
theorem dX9_letting_22 : decode cX9_letting 22 = .ok (.iload_n 1, 1) := by decide +kernel
theorem dX9_letting_23 : decode cX9_letting 23 = .ok (.invokevirtual 123, 3) := by decide +kernel
theorem dX9_letting_26 : decode cX9_letting 26 = .ok (.istore_n 2, 1) := by decide +kernel
theorem dX9_letting_27 : decode cX9_letting 27 = .ok (.iconst 0, 1) := by decide +kernel
theorem dX9_letting_28 : decode cX9_letting 28 = .ok (.istore_n 3, 1) := by decide +kernel
theorem dX9_letting_29 : decode cX9_letting 29 = .ok (.iload_n 3, 1) := by decide +kernel
theorem dX9_letting_30 : decode cX9_letting 30 = .ok (.aload_n 0, 1) := by decide +kernel
theorem dX9_letting_31 : decode cX9_letting 31 = .ok (.getfield 13, 3) := by decide +kernel
theorem dX9_letting_34 : decode cX9_letting 34 = .ok (.iconst 1, 1) := by decide +kernel
theorem dX9_letting_35 : decode cX9_letting 35 = .ok (.iaload, 1) := by decide +kernel
theorem dX9_letting_36 : decode cX9_letting 36 = .ok (.if_icmp .ge 16, 3) := by decide +kernel
theorem dX9_letting_39 : decode cX9_letting 39 = .ok (.aload_n 0, 1) := by decide +kernel
theorem dX9_letting_40 : decode cX9_letting 40 = .ok (.iload_n 3, 1) := by decide +kernel
theorem dX9_letting_41 : decode cX9_letting 41 = .ok (.bipush 99, 2) := by decide +kernel
theorem dX9_letting_43 : decode cX9_letting 43 = .ok (.invokevirtual 107, 3) := by decide +kernel
theorem dX9_letting_46 : decode cX9_letting 46 = .ok (.iinc 3 1, 3) := by decide +kernel
theorem dX9_letting_49 : decode cX9_letting 49 = .ok (.goto (-20), 3) := by decide +kernel
theorem dX9_letting_52 : decode cX9_letting 52 = .ok (.aload_n 0, 1) := by decide +kernel
theorem dX9_letting_53 : decode cX9_letting 53 = .ok (.iload_n 1, 1) := by decide +kernel
theorem dX9_letting_54 : decode cX9_letting 54 = .ok (.invokevirtual 123, 3) := by decide +kernel
theorem dX9_letting_57 : decode cX9_letting 57 = .ok (.iload_n 2, 1) := by decide +kernel
theorem dX9_letting_58 : decode cX9_letting 58 = .ok (.isub, 1) := by decide +kernel
theorem dX9_letting_59 : decode cX9_letting 59 = .ok (.istore_n 3, 1) := by decide +kernel
theorem dX9_letting_60 : decode cX9_letting 60 = .ok (.aload_n 0, 1) := by decide +kernel
theorem dX9_letting_61 : decode cX9_letting 61 = .ok (.invokevirtual 142, 3) := by decide +kernel
theorem dX9_letting_64 : decode cX9_letting 64 = .ok (.iload_n 3, 1) := by decide +kernel
theorem dX9_letting_65 : decode cX9_letting 65 = .ok (.ireturn, 1) := by decide +kernel
theorem dX9_areDoves_0 : decode cX9_areDoves 0 = .ok (.iload_n 1, 1) := by decide +kernel
theorem dX9_areDoves_1 : decode cX9_areDoves 1 = .ok (.ifCond .lt 15, 3) := by decide +kernel
theorem dX9_areDoves_4 : decode cX9_areDoves 4 = .ok (.iload_n 1, 1) := by decide +kernel
theorem dX9_areDoves_5 : decode cX9_areDoves 5 = .ok (.iconst 1, 1) := by decide +kernel
theorem dX9_areDoves_6 : decode cX9_areDoves 6 = .ok (.aload_n 0, 1) := by decide +kernel
theorem dX9_areDoves_7 : decode cX9_areDoves 7 = .ok (.getfield 13, 3) := by decide +kernel
theorem dX9_areDoves_10 : decode cX9_areDoves 10 = .ok (.iconst 1, 1) := by decide +kernel
theorem dX9_areDoves_11 : decode cX9_areDoves 11 = .ok (.iaload, 1) := by decide +kernel
theorem dX9_areDoves_12 : decode cX9_areDoves 12 = .ok (.ishl, 1) := by decide +kernel
theorem dX9_areDoves_13 : decode cX9_areDoves 13 = .ok (.if_icmp .lt 5, 3) := by decide +kernel
theorem dX9_areDoves_16 : decode cX9_areDoves 16 = .ok (.iconst 0, 1) := by decide +kernel
theorem dX9_areDoves_17 : decode cX9_areDoves 17 = .ok (.ireturn, 1) := by decide +kernel
theorem dX9_areDoves_18 : decode cX9_areDoves 18 = .ok (.iconst 0, 1) := by decide +kernel
theorem dX9_areDoves_19 : decode cX9_areDoves 19 = .ok (.istore_n 2, 1) := by decide +kernel
theorem dX9_areDoves_20 : decode cX9_areDoves 20 = .ok (.iload_n 2, 1) := by decide +kernel
theorem dX9_areDoves_21 : decode cX9_areDoves 21 = .ok (.aload_n 0, 1) := by decide +kernel
theorem dX9_areDoves_22 : decode cX9_areDoves 22 = .ok (.getfield 13, 3) := by decide +kernel
theorem dX9_areDoves_25 : decode cX9_areDoves 25 = .ok (.iconst 1, 1) := by decide +kernel
theorem dX9_areDoves_26 : decode cX9_areDoves 26 = .ok (.iaload, 1) := by decide +kernel
theorem dX9_areDoves_27 : decode cX9_areDoves 27 = .ok (.if_icmp .ge 28, 3) := by decide +kernel
theorem dX9_areDoves_30 : decode cX9_areDoves 30 = .ok (.iload_n 1, 1) := by decide +kernel
theorem dX9_areDoves_31 : decode cX9_areDoves 31 = .ok (.iload_n 2, 1) := by decide +kernel
theorem dX9_areDoves_32 : decode cX9_areDoves 32 = .ok (.ishr, 1) := by decide +kernel
theorem dX9_areDoves_33 : decode cX9_areDoves 33 = .ok (.iconst 1, 1) := by decide +kernel
theorem dX9_areDoves_34 : decode cX9_areDoves 34 = .ok (.iand, 1) := by decide +kernel
theorem dX9_areDoves_35 : decode cX9_areDoves 35 = .ok (.iconst 1, 1) := by decide +kernel
theorem dX9_areDoves_36 : decode cX9_areDoves 36 = .ok (.if_icmp .ne 13, 3) := by decide +kernel
theorem dX9_areDoves_39 : decode cX9_areDoves 39 = .ok (.aload_n 0, 1) := by decide +kernel
theorem dX9_areDoves_40 : decode cX9_areDoves 40 = .ok (.iload_n 2, 1) := by decide +kernel
theorem dX9_areDoves_41 : decode cX9_areDoves 41 = .ok (.invokevirtual 94, 3) := by decide +kernel
theorem dX9_areDoves_44 : decode cX9_areDoves 44 = .ok (.ifCond .eq 5, 3) := by decide +kernel
theorem dX9_areDoves_47 : decode cX9_areDoves 47 = .ok (.iconst 0, 1) := by decide +kernel
theorem dX9_areDoves_48 : decode cX9_areDoves 48 = .ok (.ireturn, 1) := by decide +kernel
theorem dX9_areDoves_49 : decode cX9_areDoves 49 = .ok (.iinc 2 1, 3) := by decide +kernel
theorem dX9_areDoves_52 : decode cX9_areDoves 52 = .ok (.goto (-32), 3) := by decide +kernel
theorem dX9_areDoves_55 : decode cX9_areDoves 55 = .ok (.iconst 1, 1) := by decide +kernel
theorem dX9_areDoves_56 : decode cX9_areDoves 56 = .ok (.ireturn, 1) := by decide +kernel
theorem dX9_staysOf_0 : decode cX9_staysOf 0 = .ok (.aload_n 0, 1) := by decide +kernel
theorem dX9_staysOf_1 : decode cX9_staysOf 1 = .ok (.invokevirtual 135, 3) := by decide +kernel
theorem dX9_staysOf_4 : decode cX9_staysOf 4 = .ok (.iconst 0, 1) := by decide +kernel
theorem dX9_staysOf_5 : decode cX9_staysOf 5 = .ok (.istore 4, 2) := by decide +kernel
theorem dX9_staysOf_7 : decode cX9_staysOf 7 = .ok (.iload 4, 2) := by decide +kernel
theorem dX9_staysOf_9 : decode cX9_staysOf 9 = .ok (.aload_n 0, 1) := by decide +kernel
theorem dX9_staysOf_10 : decode cX9_staysOf 10 = .ok (.getfield 13, 3) := by decide +kernel
theorem dX9_staysOf_13 : decode cX9_staysOf 13 = .ok (.iconst 1, 1) := by decide +kernel
theorem dX9_staysOf_14 : decode cX9_staysOf 14 = .ok (.iaload, 1) := by decide +kernel
theorem dX9_staysOf_15 : decode cX9_staysOf 15 = .ok (.if_icmp .ge 27, 3) := by decide +kernel
theorem dX9_staysOf_18 : decode cX9_staysOf 18 = .ok (.iload_n 1, 1) := by decide +kernel
theorem dX9_staysOf_19 : decode cX9_staysOf 19 = .ok (.iload 4, 2) := by decide +kernel
theorem dX9_staysOf_21 : decode cX9_staysOf 21 = .ok (.ishr, 1) := by decide +kernel
theorem dX9_staysOf_22 : decode cX9_staysOf 22 = .ok (.iconst 1, 1) := by decide +kernel
theorem dX9_staysOf_23 : decode cX9_staysOf 23 = .ok (.iand, 1) := by decide +kernel
theorem dX9_staysOf_24 : decode cX9_staysOf 24 = .ok (.iconst 1, 1) := by decide +kernel
theorem dX9_staysOf_25 : decode cX9_staysOf 25 = .ok (.if_icmp .ne 11, 3) := by decide +kernel
theorem dX9_staysOf_28 : decode cX9_staysOf 28 = .ok (.aload_n 0, 1) := by decide +kernel
theorem dX9_staysOf_29 : decode cX9_staysOf 29 = .ok (.iload 4, 2) := by decide +kernel
theorem dX9_staysOf_31 : decode cX9_staysOf 31 = .ok (.iconst 3, 1) := by decide +kernel
theorem dX9_staysOf_32 : decode cX9_staysOf 32 = .ok (.iload_n 2, 1) := by decide +kernel
theorem dX9_staysOf_33 : decode cX9_staysOf 33 = .ok (.invokevirtual 103, 3) := by decide +kernel
theorem dX9_staysOf_36 : decode cX9_staysOf 36 = .ok (.iinc 4 1, 3) := by decide +kernel
theorem dX9_staysOf_39 : decode cX9_staysOf 39 = .ok (.goto (-32), 3) := by decide +kernel
theorem dX9_staysOf_42 : decode cX9_staysOf 42 = .ok (.aload_n 0, 1) := by decide +kernel
theorem dX9_staysOf_43 : decode cX9_staysOf 43 = .ok (.iload_n 3, 1) := by decide +kernel
theorem dX9_staysOf_44 : decode cX9_staysOf 44 = .ok (.invokevirtual 138, 3) := by decide +kernel
theorem dX9_staysOf_47 : decode cX9_staysOf 47 = .ok (.iconst 0, 1) := by decide +kernel
theorem dX9_staysOf_48 : decode cX9_staysOf 48 = .ok (.istore 4, 2) := by decide +kernel
theorem dX9_staysOf_50 : decode cX9_staysOf 50 = .ok (.iconst 0, 1) := by decide +kernel
theorem dX9_staysOf_51 : decode cX9_staysOf 51 = .ok (.istore 5, 2) := by decide +kernel
theorem dX9_staysOf_53 : decode cX9_staysOf 53 = .ok (.iload 5, 2) := by decide +kernel
theorem dX9_staysOf_55 : decode cX9_staysOf 55 = .ok (.aload_n 0, 1) := by decide +kernel
theorem dX9_staysOf_56 : decode cX9_staysOf 56 = .ok (.getfield 13, 3) := by decide +kernel
theorem dX9_staysOf_59 : decode cX9_staysOf 59 = .ok (.iconst 1, 1) := by decide +kernel
theorem dX9_staysOf_60 : decode cX9_staysOf 60 = .ok (.iaload, 1) := by decide +kernel
theorem dX9_staysOf_61 : decode cX9_staysOf 61 = .ok (.if_icmp .ge 45, 3) := by decide +kernel
theorem dX9_staysOf_64 : decode cX9_staysOf 64 = .ok (.iload 4, 2) := by decide +kernel
theorem dX9_staysOf_66 : decode cX9_staysOf 66 = .ok (.iload_n 1, 1) := by decide +kernel
theorem dX9_staysOf_67 : decode cX9_staysOf 67 = .ok (.iload 5, 2) := by decide +kernel
theorem dX9_staysOf_69 : decode cX9_staysOf 69 = .ok (.ishr, 1) := by decide +kernel
theorem dX9_staysOf_70 : decode cX9_staysOf 70 = .ok (.iconst 1, 1) := by decide +kernel
theorem dX9_staysOf_71 : decode cX9_staysOf 71 = .ok (.iand, 1) := by decide +kernel
theorem dX9_staysOf_72 : decode cX9_staysOf 72 = .ok (.iconst 1, 1) := by decide +kernel
theorem dX9_staysOf_73 : decode cX9_staysOf 73 = .ok (.if_icmp .ne 23, 3) := by decide +kernel
theorem dX9_staysOf_76 : decode cX9_staysOf 76 = .ok (.aload_n 0, 1) := by decide +kernel
theorem dX9_staysOf_77 : decode cX9_staysOf 77 = .ok (.iload 5, 2) := by decide +kernel
theorem dX9_staysOf_79 : decode cX9_staysOf 79 = .ok (.iconst 3, 1) := by decide +kernel
theorem dX9_staysOf_80 : decode cX9_staysOf 80 = .ok (.invokevirtual 42, 3) := by decide +kernel
theorem dX9_staysOf_83 : decode cX9_staysOf 83 = .ok (.iload_n 2, 1) := by decide +kernel
theorem dX9_staysOf_84 : decode cX9_staysOf 84 = .ok (.if_icmp .ne 12, 3) := by decide +kernel
theorem dX9_staysOf_87 : decode cX9_staysOf 87 = .ok (.aload_n 0, 1) := by decide +kernel
theorem dX9_staysOf_88 : decode cX9_staysOf 88 = .ok (.iload 5, 2) := by decide +kernel
theorem dX9_staysOf_90 : decode cX9_staysOf 90 = .ok (.invokevirtual 117, 3) := by decide +kernel
theorem dX9_staysOf_93 : decode cX9_staysOf 93 = .ok (.goto 4, 3) := by decide +kernel
theorem dX9_staysOf_96 : decode cX9_staysOf 96 = .ok (.iconst 0, 1) := by decide +kernel
theorem dX9_staysOf_97 : decode cX9_staysOf 97 = .ok (.iadd, 1) := by decide +kernel
theorem dX9_staysOf_98 : decode cX9_staysOf 98 = .ok (.istore 4, 2) := by decide +kernel
theorem dX9_staysOf_100 : decode cX9_staysOf 100 = .ok (.iinc 5 1, 3) := by decide +kernel
theorem dX9_staysOf_103 : decode cX9_staysOf 103 = .ok (.goto (-50), 3) := by decide +kernel
theorem dX9_staysOf_106 : decode cX9_staysOf 106 = .ok (.aload_n 0, 1) := by decide +kernel
theorem dX9_staysOf_107 : decode cX9_staysOf 107 = .ok (.invokevirtual 142, 3) := by decide +kernel
theorem dX9_staysOf_110 : decode cX9_staysOf 110 = .ok (.iload 4, 2) := by decide +kernel
theorem dX9_staysOf_112 : decode cX9_staysOf 112 = .ok (.ireturn, 1) := by decide +kernel
theorem dX9_stays_0 : decode cX9_stays 0 = .ok (.aload_n 0, 1) := by decide +kernel
theorem dX9_stays_1 : decode cX9_stays 1 = .ok (.iload_n 1, 1) := by decide +kernel
theorem dX9_stays_2 : decode cX9_stays 2 = .ok (.invokevirtual 146, 3) := by decide +kernel
theorem dX9_stays_5 : decode cX9_stays 5 = .ok (.ifCond .eq 11, 3) := by decide +kernel
theorem dX9_stays_8 : decode cX9_stays 8 = .ok (.aload_n 0, 1) := by decide +kernel
theorem dX9_stays_9 : decode cX9_stays 9 = .ok (.iload_n 2, 1) := by decide +kernel
theorem dX9_stays_10 : decode cX9_stays 10 = .ok (.invokevirtual 120, 3) := by decide +kernel
theorem dX9_stays_13 : decode cX9_stays 13 = .ok (.ifCond .ne 7, 3) := by decide +kernel
theorem dX9_stays_16 : decode cX9_stays 16 = .ok (.iconst (-1), 1) := by decide +kernel
theorem dX9_stays_17 : decode cX9_stays 17 = .ok (.goto 10, 3) := by decide +kernel
theorem dX9_stays_20 : decode cX9_stays 20 = .ok (.iload_n 3, 1) := by decide +kernel
theorem dX9_stays_21 : decode cX9_stays 21 = .ok (.iconst 0, 1) := by decide +kernel
theorem dX9_stays_22 : decode cX9_stays 22 = .ok (.bipush 40, 2) := by decide +kernel
theorem dX9_stays_24 : decode cX9_stays 24 = .ok (.invokestatic 46, 3) := by decide +kernel
theorem dX9_stays_27 : decode cX9_stays 27 = .ok (.istore 4, 2) := by decide +kernel
theorem dX9_stays_29 : decode cX9_stays 29 = .ok (.iload 4, 2) := by decide +kernel
theorem dX9_stays_31 : decode cX9_stays 31 = .ok (.ifCond .eq 12, 3) := by decide +kernel
theorem dX9_stays_34 : decode cX9_stays 34 = .ok (.aload_n 0, 1) := by decide +kernel
theorem dX9_stays_35 : decode cX9_stays 35 = .ok (.iload 4, 2) := by decide +kernel
theorem dX9_stays_37 : decode cX9_stays 37 = .ok (.invokevirtual 54, 3) := by decide +kernel
theorem dX9_stays_40 : decode cX9_stays 40 = .ok (.goto 10, 3) := by decide +kernel
theorem dX9_stays_43 : decode cX9_stays 43 = .ok (.aload_n 0, 1) := by decide +kernel
theorem dX9_stays_44 : decode cX9_stays 44 = .ok (.iload_n 1, 1) := by decide +kernel
theorem dX9_stays_45 : decode cX9_stays 45 = .ok (.iload_n 2, 1) := by decide +kernel
theorem dX9_stays_46 : decode cX9_stays 46 = .ok (.iload_n 3, 1) := by decide +kernel
theorem dX9_stays_47 : decode cX9_stays 47 = .ok (.invokevirtual 149, 3) := by decide +kernel
theorem dX9_stays_50 : decode cX9_stays 50 = .ok (.ireturn, 1) := by decide +kernel
theorem dX9_worthNow_0 : decode cX9_worthNow 0 = .ok (.iconst 0, 1) := by decide +kernel
theorem dX9_worthNow_1 : decode cX9_worthNow 1 = .ok (.istore_n 2, 1) := by decide +kernel
theorem dX9_worthNow_2 : decode cX9_worthNow 2 = .ok (.iconst 0, 1) := by decide +kernel
theorem dX9_worthNow_3 : decode cX9_worthNow 3 = .ok (.istore_n 3, 1) := by decide +kernel
theorem dX9_worthNow_4 : decode cX9_worthNow 4 = .ok (.iload_n 3, 1) := by decide +kernel
theorem dX9_worthNow_5 : decode cX9_worthNow 5 = .ok (.aload_n 0, 1) := by decide +kernel
theorem dX9_worthNow_6 : decode cX9_worthNow 6 = .ok (.getfield 13, 3) := by decide +kernel
theorem dX9_worthNow_9 : decode cX9_worthNow 9 = .ok (.iconst 1, 1) := by decide +kernel
theorem dX9_worthNow_10 : decode cX9_worthNow 10 = .ok (.iaload, 1) := by decide +kernel
theorem dX9_worthNow_11 : decode cX9_worthNow 11 = .ok (.if_icmp .ge 30, 3) := by decide +kernel
theorem dX9_worthNow_14 : decode cX9_worthNow 14 = .ok (.iload_n 2, 1) := by decide +kernel
theorem dX9_worthNow_15 : decode cX9_worthNow 15 = .ok (.iload_n 1, 1) := by decide +kernel
theorem dX9_worthNow_16 : decode cX9_worthNow 16 = .ok (.iload_n 3, 1) := by decide +kernel
theorem dX9_worthNow_17 : decode cX9_worthNow 17 = .ok (.ishr, 1) := by decide +kernel
theorem dX9_worthNow_18 : decode cX9_worthNow 18 = .ok (.iconst 1, 1) := by decide +kernel
theorem dX9_worthNow_19 : decode cX9_worthNow 19 = .ok (.iand, 1) := by decide +kernel
theorem dX9_worthNow_20 : decode cX9_worthNow 20 = .ok (.iconst 1, 1) := by decide +kernel
theorem dX9_worthNow_21 : decode cX9_worthNow 21 = .ok (.if_icmp .ne 11, 3) := by decide +kernel
theorem dX9_worthNow_24 : decode cX9_worthNow 24 = .ok (.aload_n 0, 1) := by decide +kernel
theorem dX9_worthNow_25 : decode cX9_worthNow 25 = .ok (.iload_n 3, 1) := by decide +kernel
theorem dX9_worthNow_26 : decode cX9_worthNow 26 = .ok (.invokevirtual 117, 3) := by decide +kernel
theorem dX9_worthNow_29 : decode cX9_worthNow 29 = .ok (.goto 4, 3) := by decide +kernel
theorem dX9_worthNow_32 : decode cX9_worthNow 32 = .ok (.iconst 0, 1) := by decide +kernel
theorem dX9_worthNow_33 : decode cX9_worthNow 33 = .ok (.iadd, 1) := by decide +kernel
theorem dX9_worthNow_34 : decode cX9_worthNow 34 = .ok (.istore_n 2, 1) := by decide +kernel
theorem dX9_worthNow_35 : decode cX9_worthNow 35 = .ok (.iinc 3 1, 3) := by decide +kernel
theorem dX9_worthNow_38 : decode cX9_worthNow 38 = .ok (.goto (-34), 3) := by decide +kernel
theorem dX9_worthNow_41 : decode cX9_worthNow 41 = .ok (.iload_n 2, 1) := by decide +kernel
theorem dX9_worthNow_42 : decode cX9_worthNow 42 = .ok (.ireturn, 1) := by decide +kernel
theorem dX9_areAllIn_0 : decode cX9_areAllIn 0 = .ok (.iconst 0, 1) := by decide +kernel
theorem dX9_areAllIn_1 : decode cX9_areAllIn 1 = .ok (.istore_n 3, 1) := by decide +kernel
theorem dX9_areAllIn_2 : decode cX9_areAllIn 2 = .ok (.iload_n 3, 1) := by decide +kernel
theorem dX9_areAllIn_3 : decode cX9_areAllIn 3 = .ok (.aload_n 0, 1) := by decide +kernel
theorem dX9_areAllIn_4 : decode cX9_areAllIn 4 = .ok (.getfield 13, 3) := by decide +kernel
theorem dX9_areAllIn_7 : decode cX9_areAllIn 7 = .ok (.iconst 1, 1) := by decide +kernel
theorem dX9_areAllIn_8 : decode cX9_areAllIn 8 = .ok (.iaload, 1) := by decide +kernel
theorem dX9_areAllIn_9 : decode cX9_areAllIn 9 = .ok (.if_icmp .ge 30, 3) := by decide +kernel
theorem dX9_areAllIn_12 : decode cX9_areAllIn 12 = .ok (.iload_n 1, 1) := by decide +kernel
theorem dX9_areAllIn_13 : decode cX9_areAllIn 13 = .ok (.iload_n 3, 1) := by decide +kernel
theorem dX9_areAllIn_14 : decode cX9_areAllIn 14 = .ok (.ishr, 1) := by decide +kernel
theorem dX9_areAllIn_15 : decode cX9_areAllIn 15 = .ok (.iconst 1, 1) := by decide +kernel
theorem dX9_areAllIn_16 : decode cX9_areAllIn 16 = .ok (.iand, 1) := by decide +kernel
theorem dX9_areAllIn_17 : decode cX9_areAllIn 17 = .ok (.iconst 1, 1) := by decide +kernel
theorem dX9_areAllIn_18 : decode cX9_areAllIn 18 = .ok (.if_icmp .ne 15, 3) := by decide +kernel
theorem dX9_areAllIn_21 : decode cX9_areAllIn 21 = .ok (.aload_n 0, 1) := by decide +kernel
theorem dX9_areAllIn_22 : decode cX9_areAllIn 22 = .ok (.iload_n 3, 1) := by decide +kernel
theorem dX9_areAllIn_23 : decode cX9_areAllIn 23 = .ok (.iconst 3, 1) := by decide +kernel
theorem dX9_areAllIn_24 : decode cX9_areAllIn 24 = .ok (.invokevirtual 42, 3) := by decide +kernel
theorem dX9_areAllIn_27 : decode cX9_areAllIn 27 = .ok (.iload_n 2, 1) := by decide +kernel
theorem dX9_areAllIn_28 : decode cX9_areAllIn 28 = .ok (.if_icmp .eq 5, 3) := by decide +kernel
theorem dX9_areAllIn_31 : decode cX9_areAllIn 31 = .ok (.iconst 0, 1) := by decide +kernel
theorem dX9_areAllIn_32 : decode cX9_areAllIn 32 = .ok (.ireturn, 1) := by decide +kernel
theorem dX9_areAllIn_33 : decode cX9_areAllIn 33 = .ok (.iinc 3 1, 3) := by decide +kernel
theorem dX9_areAllIn_36 : decode cX9_areAllIn 36 = .ok (.goto (-34), 3) := by decide +kernel
theorem dX9_areAllIn_39 : decode cX9_areAllIn 39 = .ok (.iconst 1, 1) := by decide +kernel
theorem dX9_areAllIn_40 : decode cX9_areAllIn 40 = .ok (.ireturn, 1) := by decide +kernel
theorem dX9_cheapest_0 : decode cX9_cheapest 0 = .ok (.aload_n 0, 1) := by decide +kernel
theorem dX9_cheapest_1 : decode cX9_cheapest 1 = .ok (.iload_n 1, 1) := by decide +kernel
theorem dX9_cheapest_2 : decode cX9_cheapest 2 = .ok (.invokevirtual 120, 3) := by decide +kernel
theorem dX9_cheapest_5 : decode cX9_cheapest 5 = .ok (.ifCond .eq 16, 3) := by decide +kernel
theorem dX9_cheapest_8 : decode cX9_cheapest 8 = .ok (.aload_n 0, 1) := by decide +kernel
theorem dX9_cheapest_9 : decode cX9_cheapest 9 = .ok (.iload_n 2, 1) := by decide +kernel
theorem dX9_cheapest_10 : decode cX9_cheapest 10 = .ok (.invokevirtual 120, 3) := by decide +kernel
theorem dX9_cheapest_13 : decode cX9_cheapest 13 = .ok (.ifCond .eq 8, 3) := by decide +kernel
theorem dX9_cheapest_16 : decode cX9_cheapest 16 = .ok (.iload_n 1, 1) := by decide +kernel
theorem dX9_cheapest_17 : decode cX9_cheapest 17 = .ok (.iload_n 2, 1) := by decide +kernel
theorem dX9_cheapest_18 : decode cX9_cheapest 18 = .ok (.if_icmp .ne 7, 3) := by decide +kernel
theorem dX9_cheapest_21 : decode cX9_cheapest 21 = .ok (.iconst (-1), 1) := by decide +kernel
theorem dX9_cheapest_22 : decode cX9_cheapest 22 = .ok (.goto 37, 3) := by decide +kernel
theorem dX9_cheapest_25 : decode cX9_cheapest 25 = .ok (.iload_n 3, 1) := by decide +kernel
theorem dX9_cheapest_26 : decode cX9_cheapest 26 = .ok (.ifCond .lt 8, 3) := by decide +kernel
theorem dX9_cheapest_29 : decode cX9_cheapest 29 = .ok (.iload 4, 2) := by decide +kernel
theorem dX9_cheapest_31 : decode cX9_cheapest 31 = .ok (.ifCond .ge 8, 3) := by decide +kernel
theorem dX9_cheapest_34 : decode cX9_cheapest 34 = .ok (.bipush (-4), 2) := by decide +kernel
theorem dX9_cheapest_36 : decode cX9_cheapest 36 = .ok (.goto 23, 3) := by decide +kernel
theorem dX9_cheapest_39 : decode cX9_cheapest 39 = .ok (.iload_n 3, 1) := by decide +kernel
theorem dX9_cheapest_40 : decode cX9_cheapest 40 = .ok (.sipush 999, 3) := by decide +kernel
theorem dX9_cheapest_43 : decode cX9_cheapest 43 = .ok (.if_icmp .gt 10, 3) := by decide +kernel
theorem dX9_cheapest_46 : decode cX9_cheapest 46 = .ok (.iload 4, 2) := by decide +kernel
theorem dX9_cheapest_48 : decode cX9_cheapest 48 = .ok (.bipush 40, 2) := by decide +kernel
theorem dX9_cheapest_50 : decode cX9_cheapest 50 = .ok (.if_icmp .le 8, 3) := by decide +kernel
theorem dX9_cheapest_53 : decode cX9_cheapest 53 = .ok (.bipush (-6), 2) := by decide +kernel
theorem dX9_cheapest_55 : decode cX9_cheapest 55 = .ok (.goto 4, 3) := by decide +kernel
theorem dX9_cheapest_58 : decode cX9_cheapest 58 = .ok (.iconst 0, 1) := by decide +kernel
theorem dX9_cheapest_59 : decode cX9_cheapest 59 = .ok (.istore 5, 2) := by decide +kernel
theorem dX9_cheapest_61 : decode cX9_cheapest 61 = .ok (.iload 5, 2) := by decide +kernel
theorem dX9_cheapest_63 : decode cX9_cheapest 63 = .ok (.ifCond .eq 10, 3) := by decide +kernel
theorem dX9_cheapest_66 : decode cX9_cheapest 66 = .ok (.aload_n 0, 1) := by decide +kernel
theorem dX9_cheapest_67 : decode cX9_cheapest 67 = .ok (.iload 5, 2) := by decide +kernel
theorem dX9_cheapest_69 : decode cX9_cheapest 69 = .ok (.invokevirtual 54, 3) := by decide +kernel
theorem dX9_cheapest_72 : decode cX9_cheapest 72 = .ok (.ireturn, 1) := by decide +kernel
theorem dX9_cheapest_73 : decode cX9_cheapest 73 = .ok (.bipush (-9), 2) := by decide +kernel
theorem dX9_cheapest_75 : decode cX9_cheapest 75 = .ok (.istore 6, 2) := by decide +kernel
theorem dX9_cheapest_77 : decode cX9_cheapest 77 = .ok (.iconst 0, 1) := by decide +kernel
theorem dX9_cheapest_78 : decode cX9_cheapest 78 = .ok (.istore 7, 2) := by decide +kernel
theorem dX9_cheapest_80 : decode cX9_cheapest 80 = .ok (.iconst 0, 1) := by decide +kernel
theorem dX9_cheapest_81 : decode cX9_cheapest 81 = .ok (.istore 8, 2) := by decide +kernel
theorem dX9_cheapest_83 : decode cX9_cheapest 83 = .ok (.iload 8, 2) := by decide +kernel
theorem dX9_cheapest_85 : decode cX9_cheapest 85 = .ok (.iconst 1, 1) := by decide +kernel
theorem dX9_cheapest_86 : decode cX9_cheapest 86 = .ok (.aload_n 0, 1) := by decide +kernel
theorem dX9_cheapest_87 : decode cX9_cheapest 87 = .ok (.getfield 13, 3) := by decide +kernel
theorem dX9_cheapest_90 : decode cX9_cheapest 90 = .ok (.iconst 1, 1) := by decide +kernel
theorem dX9_cheapest_91 : decode cX9_cheapest 91 = .ok (.iaload, 1) := by decide +kernel
theorem dX9_cheapest_92 : decode cX9_cheapest 92 = .ok (.ishl, 1) := by decide +kernel
theorem dX9_cheapest_93 : decode cX9_cheapest 93 = .ok (.if_icmp .ge 75, 3) := by decide +kernel
theorem dX9_cheapest_96 : decode cX9_cheapest 96 = .ok (.aload_n 0, 1) := by decide +kernel
theorem dX9_cheapest_97 : decode cX9_cheapest 97 = .ok (.iload 8, 2) := by decide +kernel
theorem dX9_cheapest_99 : decode cX9_cheapest 99 = .ok (.iload_n 1, 1) := by decide +kernel
theorem dX9_cheapest_100 : decode cX9_cheapest 100 = .ok (.invokevirtual 152, 3) := by decide +kernel
theorem dX9_cheapest_103 : decode cX9_cheapest 103 = .ok (.ifCond .eq 23, 3) := by decide +kernel
theorem dX9_cheapest_106 : decode cX9_cheapest 106 = .ok (.iload 6, 2) := by decide +kernel
theorem dX9_cheapest_108 : decode cX9_cheapest 108 = .ok (.ifCond .lt 14, 3) := by decide +kernel
theorem dX9_cheapest_111 : decode cX9_cheapest 111 = .ok (.aload_n 0, 1) := by decide +kernel
theorem dX9_cheapest_112 : decode cX9_cheapest 112 = .ok (.iload 8, 2) := by decide +kernel
theorem dX9_cheapest_114 : decode cX9_cheapest 114 = .ok (.invokevirtual 155, 3) := by decide +kernel
theorem dX9_cheapest_117 : decode cX9_cheapest 117 = .ok (.iload 7, 2) := by decide +kernel
theorem dX9_cheapest_119 : decode cX9_cheapest 119 = .ok (.if_icmp .ge 7, 3) := by decide +kernel
theorem dX9_cheapest_122 : decode cX9_cheapest 122 = .ok (.iconst 1, 1) := by decide +kernel
theorem dX9_cheapest_123 : decode cX9_cheapest 123 = .ok (.goto 4, 3) := by decide +kernel
theorem dX9_cheapest_126 : decode cX9_cheapest 126 = .ok (.iconst 0, 1) := by decide +kernel
theorem dX9_cheapest_127 : decode cX9_cheapest 127 = .ok (.istore 9, 2) := by decide +kernel
theorem dX9_cheapest_129 : decode cX9_cheapest 129 = .ok (.iload 9, 2) := by decide +kernel
theorem dX9_cheapest_131 : decode cX9_cheapest 131 = .ok (.ifCond .eq 31, 3) := by decide +kernel
theorem dX9_cheapest_134 : decode cX9_cheapest 134 = .ok (.aload_n 0, 1) := by decide +kernel
theorem dX9_cheapest_135 : decode cX9_cheapest 135 = .ok (.iload 8, 2) := by decide +kernel
theorem dX9_cheapest_137 : decode cX9_cheapest 137 = .ok (.iload_n 2, 1) := by decide +kernel
theorem dX9_cheapest_138 : decode cX9_cheapest 138 = .ok (.iload 4, 2) := by decide +kernel
theorem dX9_cheapest_140 : decode cX9_cheapest 140 = .ok (.invokevirtual 149, 3) := by decide +kernel
theorem dX9_cheapest_143 : decode cX9_cheapest 143 = .ok (.iload_n 3, 1) := by decide +kernel
theorem dX9_cheapest_144 : decode cX9_cheapest 144 = .ok (.if_icmp .ge 6, 3) := by decide +kernel
theorem dX9_cheapest_147 : decode cX9_cheapest 147 = .ok (.goto 15, 3) := by decide +kernel
theorem dX9_cheapest_150 : decode cX9_cheapest 150 = .ok (.iload 8, 2) := by decide +kernel
theorem dX9_cheapest_152 : decode cX9_cheapest 152 = .ok (.istore 6, 2) := by decide +kernel
theorem dX9_cheapest_154 : decode cX9_cheapest 154 = .ok (.aload_n 0, 1) := by decide +kernel
theorem dX9_cheapest_155 : decode cX9_cheapest 155 = .ok (.iload 8, 2) := by decide +kernel
theorem dX9_cheapest_157 : decode cX9_cheapest 157 = .ok (.invokevirtual 155, 3) := by decide +kernel
theorem dX9_cheapest_160 : decode cX9_cheapest 160 = .ok (.istore 7, 2) := by decide +kernel
theorem dX9_cheapest_162 : decode cX9_cheapest 162 = .ok (.iinc 8 1, 3) := by decide +kernel
theorem dX9_cheapest_165 : decode cX9_cheapest 165 = .ok (.goto (-82), 3) := by decide +kernel
theorem dX9_cheapest_168 : decode cX9_cheapest 168 = .ok (.iload 6, 2) := by decide +kernel
theorem dX9_cheapest_170 : decode cX9_cheapest 170 = .ok (.ireturn, 1) := by decide +kernel
theorem dX9_oneWith_0 : decode cX9_oneWith 0 = .ok (.iconst 1, 1) := by decide +kernel
theorem dX9_oneWith_1 : decode cX9_oneWith 1 = .ok (.iload_n 1, 1) := by decide +kernel
theorem dX9_oneWith_2 : decode cX9_oneWith 2 = .ok (.ishl, 1) := by decide +kernel
theorem dX9_oneWith_3 : decode cX9_oneWith 3 = .ok (.istore_n 3, 1) := by decide +kernel
theorem dX9_oneWith_4 : decode cX9_oneWith 4 = .ok (.iconst 0, 1) := by decide +kernel
theorem dX9_oneWith_5 : decode cX9_oneWith 5 = .ok (.istore 4, 2) := by decide +kernel
theorem dX9_oneWith_7 : decode cX9_oneWith 7 = .ok (.iload 4, 2) := by decide +kernel
theorem dX9_oneWith_9 : decode cX9_oneWith 9 = .ok (.bipush 6, 2) := by decide +kernel
theorem dX9_oneWith_11 : decode cX9_oneWith 11 = .ok (.if_icmp .ge 78, 3) := by decide +kernel
theorem dX9_oneWith_14 : decode cX9_oneWith 14 = .ok (.iconst 0, 1) := by decide +kernel
theorem dX9_oneWith_15 : decode cX9_oneWith 15 = .ok (.istore 5, 2) := by decide +kernel
theorem dX9_oneWith_17 : decode cX9_oneWith 17 = .ok (.iload 5, 2) := by decide +kernel
theorem dX9_oneWith_19 : decode cX9_oneWith 19 = .ok (.aload_n 0, 1) := by decide +kernel
theorem dX9_oneWith_20 : decode cX9_oneWith 20 = .ok (.getfield 13, 3) := by decide +kernel
theorem dX9_oneWith_23 : decode cX9_oneWith 23 = .ok (.iconst 0, 1) := by decide +kernel
theorem dX9_oneWith_24 : decode cX9_oneWith 24 = .ok (.iaload, 1) := by decide +kernel
theorem dX9_oneWith_25 : decode cX9_oneWith 25 = .ok (.if_icmp .ge 58, 3) := by decide +kernel
theorem dX9_oneWith_28 : decode cX9_oneWith 28 = .ok (.iconst 0, 1) := by decide +kernel
theorem dX9_oneWith_29 : decode cX9_oneWith 29 = .ok (.istore 6, 2) := by decide +kernel
theorem dX9_oneWith_31 : decode cX9_oneWith 31 = .ok (.iload 6, 2) := by decide +kernel
theorem dX9_oneWith_33 : decode cX9_oneWith 33 = .ok (.aload_n 0, 1) := by decide +kernel
theorem dX9_oneWith_34 : decode cX9_oneWith 34 = .ok (.getfield 13, 3) := by decide +kernel
theorem dX9_oneWith_37 : decode cX9_oneWith 37 = .ok (.iconst 0, 1) := by decide +kernel
theorem dX9_oneWith_38 : decode cX9_oneWith 38 = .ok (.iaload, 1) := by decide +kernel
theorem dX9_oneWith_39 : decode cX9_oneWith 39 = .ok (.if_icmp .ge 38, 3) := by decide +kernel
theorem dX9_oneWith_42 : decode cX9_oneWith 42 = .ok (.iload_n 3, 1) := by decide +kernel
theorem dX9_oneWith_43 : decode cX9_oneWith 43 = .ok (.iload 5, 2) := by decide +kernel
theorem dX9_oneWith_45 : decode cX9_oneWith 45 = .ok (.ishr, 1) := by decide +kernel
theorem dX9_oneWith_46 : decode cX9_oneWith 46 = .ok (.iconst 1, 1) := by decide +kernel
theorem dX9_oneWith_47 : decode cX9_oneWith 47 = .ok (.iand, 1) := by decide +kernel
theorem dX9_oneWith_48 : decode cX9_oneWith 48 = .ok (.iconst 1, 1) := by decide +kernel
theorem dX9_oneWith_49 : decode cX9_oneWith 49 = .ok (.if_icmp .ne 22, 3) := by decide +kernel
theorem dX9_oneWith_52 : decode cX9_oneWith 52 = .ok (.aload_n 0, 1) := by decide +kernel
theorem dX9_oneWith_53 : decode cX9_oneWith 53 = .ok (.iload 5, 2) := by decide +kernel
theorem dX9_oneWith_55 : decode cX9_oneWith 55 = .ok (.iload 6, 2) := by decide +kernel
theorem dX9_oneWith_57 : decode cX9_oneWith 57 = .ok (.invokevirtual 91, 3) := by decide +kernel
theorem dX9_oneWith_60 : decode cX9_oneWith 60 = .ok (.iload_n 2, 1) := by decide +kernel
theorem dX9_oneWith_61 : decode cX9_oneWith 61 = .ok (.if_icmp .gt 10, 3) := by decide +kernel
theorem dX9_oneWith_64 : decode cX9_oneWith 64 = .ok (.iload_n 3, 1) := by decide +kernel
theorem dX9_oneWith_65 : decode cX9_oneWith 65 = .ok (.iconst 1, 1) := by decide +kernel
theorem dX9_oneWith_66 : decode cX9_oneWith 66 = .ok (.iload 6, 2) := by decide +kernel
theorem dX9_oneWith_68 : decode cX9_oneWith 68 = .ok (.ishl, 1) := by decide +kernel
theorem dX9_oneWith_69 : decode cX9_oneWith 69 = .ok (.ior, 1) := by decide +kernel
theorem dX9_oneWith_70 : decode cX9_oneWith 70 = .ok (.istore_n 3, 1) := by decide +kernel
theorem dX9_oneWith_71 : decode cX9_oneWith 71 = .ok (.iinc 6 1, 3) := by decide +kernel
theorem dX9_oneWith_74 : decode cX9_oneWith 74 = .ok (.goto (-43), 3) := by decide +kernel
theorem dX9_oneWith_77 : decode cX9_oneWith 77 = .ok (.iinc 5 1, 3) := by decide +kernel
theorem dX9_oneWith_80 : decode cX9_oneWith 80 = .ok (.goto (-63), 3) := by decide +kernel
theorem dX9_oneWith_83 : decode cX9_oneWith 83 = .ok (.iinc 4 1, 3) := by decide +kernel
theorem dX9_oneWith_86 : decode cX9_oneWith 86 = .ok (.goto (-79), 3) := by decide +kernel
theorem dX9_oneWith_89 : decode cX9_oneWith 89 = .ok (.iconst 0, 1) := by decide +kernel
theorem dX9_oneWith_90 : decode cX9_oneWith 90 = .ok (.istore 4, 2) := by decide +kernel
theorem dX9_oneWith_92 : decode cX9_oneWith 92 = .ok (.iload_n 3, 1) := by decide +kernel
theorem dX9_oneWith_93 : decode cX9_oneWith 93 = .ok (.iload 4, 2) := by decide +kernel
theorem dX9_oneWith_95 : decode cX9_oneWith 95 = .ok (.ishr, 1) := by decide +kernel
theorem dX9_oneWith_96 : decode cX9_oneWith 96 = .ok (.iconst 1, 1) := by decide +kernel
theorem dX9_oneWith_97 : decode cX9_oneWith 97 = .ok (.iand, 1) := by decide +kernel
theorem dX9_oneWith_98 : decode cX9_oneWith 98 = .ok (.ifCond .ne 9, 3) := by decide +kernel
theorem dX9_oneWith_101 : decode cX9_oneWith 101 = .ok (.iinc 4 1, 3) := by decide +kernel
theorem dX9_oneWith_104 : decode cX9_oneWith 104 = .ok (.goto (-12), 3) := by decide +kernel
theorem dX9_oneWith_107 : decode cX9_oneWith 107 = .ok (.iload 4, 2) := by decide +kernel
theorem dX9_oneWith_109 : decode cX9_oneWith 109 = .ok (.ireturn, 1) := by decide +kernel
theorem dX9_near_0 : decode cX9_near 0 = .ok (.iload_n 1, 1) := by decide +kernel
theorem dX9_near_1 : decode cX9_near 1 = .ok (.iconst 0, 1) := by decide +kernel
theorem dX9_near_2 : decode cX9_near 2 = .ok (.bipush 18, 2) := by decide +kernel
theorem dX9_near_4 : decode cX9_near 4 = .ok (.invokestatic 46, 3) := by decide +kernel
theorem dX9_near_7 : decode cX9_near 7 = .ok (.istore_n 3, 1) := by decide +kernel
theorem dX9_near_8 : decode cX9_near 8 = .ok (.iload_n 3, 1) := by decide +kernel
theorem dX9_near_9 : decode cX9_near 9 = .ok (.ifCond .ne 14, 3) := by decide +kernel
theorem dX9_near_12 : decode cX9_near 12 = .ok (.iload_n 2, 1) := by decide +kernel
theorem dX9_near_13 : decode cX9_near 13 = .ok (.iconst 2, 1) := by decide +kernel
theorem dX9_near_14 : decode cX9_near 14 = .ok (.invokestatic 38, 3) := by decide +kernel
theorem dX9_near_17 : decode cX9_near 17 = .ok (.ifCond .ne 6, 3) := by decide +kernel
theorem dX9_near_20 : decode cX9_near 20 = .ok (.bipush (-2), 2) := by decide +kernel
theorem dX9_near_22 : decode cX9_near 22 = .ok (.istore_n 3, 1) := by decide +kernel
theorem dX9_near_23 : decode cX9_near 23 = .ok (.iload_n 3, 1) := by decide +kernel
theorem dX9_near_24 : decode cX9_near 24 = .ok (.ifCond .eq 9, 3) := by decide +kernel
theorem dX9_near_27 : decode cX9_near 27 = .ok (.aload_n 0, 1) := by decide +kernel
theorem dX9_near_28 : decode cX9_near 28 = .ok (.iload_n 3, 1) := by decide +kernel
theorem dX9_near_29 : decode cX9_near 29 = .ok (.invokevirtual 54, 3) := by decide +kernel
theorem dX9_near_32 : decode cX9_near 32 = .ok (.ireturn, 1) := by decide +kernel
theorem dX9_near_33 : decode cX9_near 33 = .ok (.iconst 0, 1) := by decide +kernel
theorem dX9_near_34 : decode cX9_near 34 = .ok (.istore 4, 2) := by decide +kernel
theorem dX9_near_36 : decode cX9_near 36 = .ok (.bipush (-9), 2) := by decide +kernel
theorem dX9_near_38 : decode cX9_near 38 = .ok (.istore 5, 2) := by decide +kernel
theorem dX9_near_40 : decode cX9_near 40 = .ok (.iconst 0, 1) := by decide +kernel
theorem dX9_near_41 : decode cX9_near 41 = .ok (.istore 6, 2) := by decide +kernel
theorem dX9_near_43 : decode cX9_near 43 = .ok (.iconst 0, 1) := by decide +kernel
theorem dX9_near_44 : decode cX9_near 44 = .ok (.istore 7, 2) := by decide +kernel
theorem dX9_near_46 : decode cX9_near 46 = .ok (.iload 7, 2) := by decide +kernel
theorem dX9_near_48 : decode cX9_near 48 = .ok (.aload_n 0, 1) := by decide +kernel
theorem dX9_near_49 : decode cX9_near 49 = .ok (.getfield 13, 3) := by decide +kernel
theorem dX9_near_52 : decode cX9_near 52 = .ok (.iconst 0, 1) := by decide +kernel
theorem dX9_near_53 : decode cX9_near 53 = .ok (.iaload, 1) := by decide +kernel
theorem dX9_near_54 : decode cX9_near 54 = .ok (.if_icmp .ge 100, 3) := by decide +kernel
theorem dX9_near_57 : decode cX9_near 57 = .ok (.aload_n 0, 1) := by decide +kernel
theorem dX9_near_58 : decode cX9_near 58 = .ok (.iload 7, 2) := by decide +kernel
theorem dX9_near_60 : decode cX9_near 60 = .ok (.iload_n 1, 1) := by decide +kernel
theorem dX9_near_61 : decode cX9_near 61 = .ok (.invokevirtual 158, 3) := by decide +kernel
theorem dX9_near_64 : decode cX9_near 64 = .ok (.iload 7, 2) := by decide +kernel
theorem dX9_near_66 : decode cX9_near 66 = .ok (.if_icmp .eq 6, 3) := by decide +kernel
theorem dX9_near_69 : decode cX9_near 69 = .ok (.goto 79, 3) := by decide +kernel
theorem dX9_near_72 : decode cX9_near 72 = .ok (.iinc 4 1, 3) := by decide +kernel
theorem dX9_near_75 : decode cX9_near 75 = .ok (.iconst 0, 1) := by decide +kernel
theorem dX9_near_76 : decode cX9_near 76 = .ok (.istore 8, 2) := by decide +kernel
theorem dX9_near_78 : decode cX9_near 78 = .ok (.iconst 0, 1) := by decide +kernel
theorem dX9_near_79 : decode cX9_near 79 = .ok (.istore 9, 2) := by decide +kernel
theorem dX9_near_81 : decode cX9_near 81 = .ok (.iload 9, 2) := by decide +kernel
theorem dX9_near_83 : decode cX9_near 83 = .ok (.aload_n 0, 1) := by decide +kernel
theorem dX9_near_84 : decode cX9_near 84 = .ok (.getfield 13, 3) := by decide +kernel
theorem dX9_near_87 : decode cX9_near 87 = .ok (.iconst 0, 1) := by decide +kernel
theorem dX9_near_88 : decode cX9_near 88 = .ok (.iaload, 1) := by decide +kernel
theorem dX9_near_89 : decode cX9_near 89 = .ok (.if_icmp .ge 36, 3) := by decide +kernel
theorem dX9_near_92 : decode cX9_near 92 = .ok (.iload 8, 2) := by decide +kernel
theorem dX9_near_94 : decode cX9_near 94 = .ok (.aload_n 0, 1) := by decide +kernel
theorem dX9_near_95 : decode cX9_near 95 = .ok (.iload 9, 2) := by decide +kernel
theorem dX9_near_97 : decode cX9_near 97 = .ok (.iload_n 1, 1) := by decide +kernel
theorem dX9_near_98 : decode cX9_near 98 = .ok (.invokevirtual 158, 3) := by decide +kernel
theorem dX9_near_101 : decode cX9_near 101 = .ok (.iload 7, 2) := by decide +kernel
theorem dX9_near_103 : decode cX9_near 103 = .ok (.if_icmp .ne 12, 3) := by decide +kernel
theorem dX9_near_106 : decode cX9_near 106 = .ok (.aload_n 0, 1) := by decide +kernel
theorem dX9_near_107 : decode cX9_near 107 = .ok (.iload 9, 2) := by decide +kernel
theorem dX9_near_109 : decode cX9_near 109 = .ok (.invokevirtual 123, 3) := by decide +kernel
theorem dX9_near_112 : decode cX9_near 112 = .ok (.goto 4, 3) := by decide +kernel
theorem dX9_near_115 : decode cX9_near 115 = .ok (.iconst 0, 1) := by decide +kernel
theorem dX9_near_116 : decode cX9_near 116 = .ok (.iadd, 1) := by decide +kernel
theorem dX9_near_117 : decode cX9_near 117 = .ok (.istore 8, 2) := by decide +kernel
theorem dX9_near_119 : decode cX9_near 119 = .ok (.iinc 9 1, 3) := by decide +kernel
theorem dX9_near_122 : decode cX9_near 122 = .ok (.goto (-41), 3) := by decide +kernel
theorem dX9_near_125 : decode cX9_near 125 = .ok (.iload 5, 2) := by decide +kernel
theorem dX9_near_127 : decode cX9_near 127 = .ok (.ifCond .lt 13, 3) := by decide +kernel
theorem dX9_near_130 : decode cX9_near 130 = .ok (.iload 8, 2) := by decide +kernel
theorem dX9_near_132 : decode cX9_near 132 = .ok (.iload 6, 2) := by decide +kernel
theorem dX9_near_134 : decode cX9_near 134 = .ok (.if_icmp .gt 6, 3) := by decide +kernel
theorem dX9_near_137 : decode cX9_near 137 = .ok (.goto 11, 3) := by decide +kernel
theorem dX9_near_140 : decode cX9_near 140 = .ok (.iload 7, 2) := by decide +kernel
theorem dX9_near_142 : decode cX9_near 142 = .ok (.istore 5, 2) := by decide +kernel
theorem dX9_near_144 : decode cX9_near 144 = .ok (.iload 8, 2) := by decide +kernel
theorem dX9_near_146 : decode cX9_near 146 = .ok (.istore 6, 2) := by decide +kernel
theorem dX9_near_148 : decode cX9_near 148 = .ok (.iinc 7 1, 3) := by decide +kernel
theorem dX9_near_151 : decode cX9_near 151 = .ok (.goto (-105), 3) := by decide +kernel
theorem dX9_near_154 : decode cX9_near 154 = .ok (.iload_n 2, 1) := by decide +kernel
theorem dX9_near_155 : decode cX9_near 155 = .ok (.ifCond .ne 8, 3) := by decide +kernel
theorem dX9_near_158 : decode cX9_near 158 = .ok (.iload 4, 2) := by decide +kernel
theorem dX9_near_160 : decode cX9_near 160 = .ok (.goto 5, 3) := by decide +kernel
theorem dX9_near_163 : decode cX9_near 163 = .ok (.iload 5, 2) := by decide +kernel
theorem dX9_near_165 : decode cX9_near 165 = .ok (.ireturn, 1) := by decide +kernel
theorem dX9_whose_0 : decode cX9_whose 0 = .ok (.aload_n 0, 1) := by decide +kernel
theorem dX9_whose_1 : decode cX9_whose 1 = .ok (.iload_n 1, 1) := by decide +kernel
theorem dX9_whose_2 : decode cX9_whose 2 = .ok (.invokevirtual 120, 3) := by decide +kernel
theorem dX9_whose_5 : decode cX9_whose 5 = .ok (.ifCond .eq 13, 3) := by decide +kernel
theorem dX9_whose_8 : decode cX9_whose 8 = .ok (.iload_n 2, 1) := by decide +kernel
theorem dX9_whose_9 : decode cX9_whose 9 = .ok (.iconst 0, 1) := by decide +kernel
theorem dX9_whose_10 : decode cX9_whose 10 = .ok (.bipush 18, 2) := by decide +kernel
theorem dX9_whose_12 : decode cX9_whose 12 = .ok (.invokestatic 46, 3) := by decide +kernel
theorem dX9_whose_15 : decode cX9_whose 15 = .ok (.goto 4, 3) := by decide +kernel
theorem dX9_whose_18 : decode cX9_whose 18 = .ok (.iconst (-1), 1) := by decide +kernel
theorem dX9_whose_19 : decode cX9_whose 19 = .ok (.istore_n 3, 1) := by decide +kernel
theorem dX9_whose_20 : decode cX9_whose 20 = .ok (.iload_n 3, 1) := by decide +kernel
theorem dX9_whose_21 : decode cX9_whose 21 = .ok (.ifCond .eq 11, 3) := by decide +kernel
theorem dX9_whose_24 : decode cX9_whose 24 = .ok (.aload_n 0, 1) := by decide +kernel
theorem dX9_whose_25 : decode cX9_whose 25 = .ok (.iload_n 3, 1) := by decide +kernel
theorem dX9_whose_26 : decode cX9_whose 26 = .ok (.invokevirtual 54, 3) := by decide +kernel
theorem dX9_whose_29 : decode cX9_whose 29 = .ok (.goto 9, 3) := by decide +kernel
theorem dX9_whose_32 : decode cX9_whose 32 = .ok (.aload_n 0, 1) := by decide +kernel
theorem dX9_whose_33 : decode cX9_whose 33 = .ok (.iload_n 1, 1) := by decide +kernel
theorem dX9_whose_34 : decode cX9_whose 34 = .ok (.iload_n 2, 1) := by decide +kernel
theorem dX9_whose_35 : decode cX9_whose 35 = .ok (.invokevirtual 158, 3) := by decide +kernel
theorem dX9_whose_38 : decode cX9_whose 38 = .ok (.ireturn, 1) := by decide +kernel
theorem dX9_run_0 : decode cX9_run 0 = .ok (.aload_n 0, 1) := by decide +kernel
theorem dX9_run_1 : decode cX9_run 1 = .ok (.iload_n 1, 1) := by decide +kernel
theorem dX9_run_2 : decode cX9_run 2 = .ok (.invokevirtual 120, 3) := by decide +kernel
theorem dX9_run_5 : decode cX9_run 5 = .ok (.ifCond .eq 14, 3) := by decide +kernel
theorem dX9_run_8 : decode cX9_run 8 = .ok (.iload_n 2, 1) := by decide +kernel
theorem dX9_run_9 : decode cX9_run 9 = .ok (.iconst 0, 1) := by decide +kernel
theorem dX9_run_10 : decode cX9_run 10 = .ok (.sipush 999, 3) := by decide +kernel
theorem dX9_run_13 : decode cX9_run 13 = .ok (.invokestatic 46, 3) := by decide +kernel
theorem dX9_run_16 : decode cX9_run 16 = .ok (.goto 4, 3) := by decide +kernel
theorem dX9_run_19 : decode cX9_run 19 = .ok (.iconst (-1), 1) := by decide +kernel
theorem dX9_run_20 : decode cX9_run 20 = .ok (.istore_n 3, 1) := by decide +kernel
theorem dX9_run_21 : decode cX9_run 21 = .ok (.iload_n 3, 1) := by decide +kernel
theorem dX9_run_22 : decode cX9_run 22 = .ok (.ifCond .eq 9, 3) := by decide +kernel
theorem dX9_run_25 : decode cX9_run 25 = .ok (.aload_n 0, 1) := by decide +kernel
theorem dX9_run_26 : decode cX9_run 26 = .ok (.iload_n 3, 1) := by decide +kernel
theorem dX9_run_27 : decode cX9_run 27 = .ok (.invokevirtual 54, 3) := by decide +kernel
theorem dX9_run_30 : decode cX9_run 30 = .ok (.ireturn, 1) := by decide +kernel
theorem dX9_run_31 : decode cX9_run 31 = .ok (.aload_n 0, 1) := by decide +kernel
theorem dX9_run_32 : decode cX9_run 32 = .ok (.invokevirtual 135, 3) := by decide +kernel
theorem dX9_run_35 : decode cX9_run 35 = .ok (.bipush (-9), 2) := by decide +kernel
theorem dX9_run_37 : decode cX9_run 37 = .ok (.istore 4, 2) := by decide +kernel
theorem dX9_run_39 : decode cX9_run 39 = .ok (.iconst 0, 1) := by decide +kernel
theorem dX9_run_40 : decode cX9_run 40 = .ok (.istore 5, 2) := by decide +kernel
theorem dX9_run_42 : decode cX9_run 42 = .ok (.iload 5, 2) := by decide +kernel
theorem dX9_run_44 : decode cX9_run 44 = .ok (.bipush 40, 2) := by decide +kernel
theorem dX9_run_46 : decode cX9_run 46 = .ok (.if_icmp .gt 36, 3) := by decide +kernel
theorem dX9_run_49 : decode cX9_run 49 = .ok (.iload 4, 2) := by decide +kernel
theorem dX9_run_51 : decode cX9_run 51 = .ok (.ifCond .ge 31, 3) := by decide +kernel
theorem dX9_run_54 : decode cX9_run 54 = .ok (.aload_n 0, 1) := by decide +kernel
theorem dX9_run_55 : decode cX9_run 55 = .ok (.iload_n 1, 1) := by decide +kernel
theorem dX9_run_56 : decode cX9_run 56 = .ok (.invokevirtual 123, 3) := by decide +kernel
theorem dX9_run_59 : decode cX9_run 59 = .ok (.iload_n 2, 1) := by decide +kernel
theorem dX9_run_60 : decode cX9_run 60 = .ok (.if_icmp .ge 8, 3) := by decide +kernel
theorem dX9_run_63 : decode cX9_run 63 = .ok (.iload 5, 2) := by decide +kernel
theorem dX9_run_65 : decode cX9_run 65 = .ok (.goto 5, 3) := by decide +kernel
theorem dX9_run_68 : decode cX9_run 68 = .ok (.bipush (-9), 2) := by decide +kernel
theorem dX9_run_70 : decode cX9_run 70 = .ok (.istore 4, 2) := by decide +kernel
theorem dX9_run_72 : decode cX9_run 72 = .ok (.aload_n 0, 1) := by decide +kernel
theorem dX9_run_73 : decode cX9_run 73 = .ok (.invokevirtual 114, 3) := by decide +kernel
theorem dX9_run_76 : decode cX9_run 76 = .ok (.iinc 5 1, 3) := by decide +kernel
theorem dX9_run_79 : decode cX9_run 79 = .ok (.goto (-37), 3) := by decide +kernel
theorem dX9_run_82 : decode cX9_run 82 = .ok (.aload_n 0, 1) := by decide +kernel
theorem dX9_run_83 : decode cX9_run 83 = .ok (.invokevirtual 142, 3) := by decide +kernel
theorem dX9_run_86 : decode cX9_run 86 = .ok (.iload 4, 2) := by decide +kernel
theorem dX9_run_88 : decode cX9_run 88 = .ok (.ireturn, 1) := by decide +kernel
theorem dX9_bestOpen_0 : decode cX9_bestOpen 0 = .ok (.aload_n 0, 1) := by decide +kernel
theorem dX9_bestOpen_1 : decode cX9_bestOpen 1 = .ok (.iload_n 1, 1) := by decide +kernel
theorem dX9_bestOpen_2 : decode cX9_bestOpen 2 = .ok (.invokevirtual 120, 3) := by decide +kernel
theorem dX9_bestOpen_5 : decode cX9_bestOpen 5 = .ok (.ifCond .eq 13, 3) := by decide +kernel
theorem dX9_bestOpen_8 : decode cX9_bestOpen 8 = .ok (.iload_n 2, 1) := by decide +kernel
theorem dX9_bestOpen_9 : decode cX9_bestOpen 9 = .ok (.iconst 0, 1) := by decide +kernel
theorem dX9_bestOpen_10 : decode cX9_bestOpen 10 = .ok (.bipush 40, 2) := by decide +kernel
theorem dX9_bestOpen_12 : decode cX9_bestOpen 12 = .ok (.invokestatic 46, 3) := by decide +kernel
theorem dX9_bestOpen_15 : decode cX9_bestOpen 15 = .ok (.goto 4, 3) := by decide +kernel
theorem dX9_bestOpen_18 : decode cX9_bestOpen 18 = .ok (.iconst (-1), 1) := by decide +kernel
theorem dX9_bestOpen_19 : decode cX9_bestOpen 19 = .ok (.istore_n 3, 1) := by decide +kernel
theorem dX9_bestOpen_20 : decode cX9_bestOpen 20 = .ok (.iload_n 3, 1) := by decide +kernel
theorem dX9_bestOpen_21 : decode cX9_bestOpen 21 = .ok (.ifCond .eq 9, 3) := by decide +kernel
theorem dX9_bestOpen_24 : decode cX9_bestOpen 24 = .ok (.aload_n 0, 1) := by decide +kernel
theorem dX9_bestOpen_25 : decode cX9_bestOpen 25 = .ok (.iload_n 3, 1) := by decide +kernel
theorem dX9_bestOpen_26 : decode cX9_bestOpen 26 = .ok (.invokevirtual 54, 3) := by decide +kernel
theorem dX9_bestOpen_29 : decode cX9_bestOpen 29 = .ok (.ireturn, 1) := by decide +kernel
theorem dX9_bestOpen_30 : decode cX9_bestOpen 30 = .ok (.bipush (-9), 2) := by decide +kernel
theorem dX9_bestOpen_32 : decode cX9_bestOpen 32 = .ok (.istore 4, 2) := by decide +kernel
theorem dX9_bestOpen_34 : decode cX9_bestOpen 34 = .ok (.iconst 0, 1) := by decide +kernel
theorem dX9_bestOpen_35 : decode cX9_bestOpen 35 = .ok (.istore 5, 2) := by decide +kernel
theorem dX9_bestOpen_37 : decode cX9_bestOpen 37 = .ok (.aload_n 0, 1) := by decide +kernel
theorem dX9_bestOpen_38 : decode cX9_bestOpen 38 = .ok (.invokevirtual 135, 3) := by decide +kernel
theorem dX9_bestOpen_41 : decode cX9_bestOpen 41 = .ok (.iconst 0, 1) := by decide +kernel
theorem dX9_bestOpen_42 : decode cX9_bestOpen 42 = .ok (.istore 6, 2) := by decide +kernel
theorem dX9_bestOpen_44 : decode cX9_bestOpen 44 = .ok (.iload 6, 2) := by decide +kernel
theorem dX9_bestOpen_46 : decode cX9_bestOpen 46 = .ok (.iconst 1, 1) := by decide +kernel
theorem dX9_bestOpen_47 : decode cX9_bestOpen 47 = .ok (.aload_n 0, 1) := by decide +kernel
theorem dX9_bestOpen_48 : decode cX9_bestOpen 48 = .ok (.getfield 13, 3) := by decide +kernel
theorem dX9_bestOpen_51 : decode cX9_bestOpen 51 = .ok (.iconst 0, 1) := by decide +kernel
theorem dX9_bestOpen_52 : decode cX9_bestOpen 52 = .ok (.iaload, 1) := by decide +kernel
theorem dX9_bestOpen_53 : decode cX9_bestOpen 53 = .ok (.ishl, 1) := by decide +kernel
theorem dX9_bestOpen_54 : decode cX9_bestOpen 54 = .ok (.if_icmp .ge 56, 3) := by decide +kernel
theorem dX9_bestOpen_57 : decode cX9_bestOpen 57 = .ok (.aload_n 0, 1) := by decide +kernel
theorem dX9_bestOpen_58 : decode cX9_bestOpen 58 = .ok (.getfield 13, 3) := by decide +kernel
theorem dX9_bestOpen_61 : decode cX9_bestOpen 61 = .ok (.iconst 2, 1) := by decide +kernel
theorem dX9_bestOpen_62 : decode cX9_bestOpen 62 = .ok (.iload 6, 2) := by decide +kernel
theorem dX9_bestOpen_64 : decode cX9_bestOpen 64 = .ok (.iastore, 1) := by decide +kernel
theorem dX9_bestOpen_65 : decode cX9_bestOpen 65 = .ok (.aload_n 0, 1) := by decide +kernel
theorem dX9_bestOpen_66 : decode cX9_bestOpen 66 = .ok (.iload_n 2, 1) := by decide +kernel
theorem dX9_bestOpen_67 : decode cX9_bestOpen 67 = .ok (.invokevirtual 138, 3) := by decide +kernel
theorem dX9_bestOpen_70 : decode cX9_bestOpen 70 = .ok (.aload_n 0, 1) := by decide +kernel
theorem dX9_bestOpen_71 : decode cX9_bestOpen 71 = .ok (.iload_n 1, 1) := by decide +kernel
theorem dX9_bestOpen_72 : decode cX9_bestOpen 72 = .ok (.invokevirtual 123, 3) := by decide +kernel
theorem dX9_bestOpen_75 : decode cX9_bestOpen 75 = .ok (.istore 7, 2) := by decide +kernel
theorem dX9_bestOpen_77 : decode cX9_bestOpen 77 = .ok (.aload_n 0, 1) := by decide +kernel
theorem dX9_bestOpen_78 : decode cX9_bestOpen 78 = .ok (.invokevirtual 142, 3) := by decide +kernel
theorem dX9_bestOpen_81 : decode cX9_bestOpen 81 = .ok (.iload 4, 2) := by decide +kernel
theorem dX9_bestOpen_83 : decode cX9_bestOpen 83 = .ok (.ifCond .lt 13, 3) := by decide +kernel
theorem dX9_bestOpen_86 : decode cX9_bestOpen 86 = .ok (.iload 7, 2) := by decide +kernel
theorem dX9_bestOpen_88 : decode cX9_bestOpen 88 = .ok (.iload 5, 2) := by decide +kernel
theorem dX9_bestOpen_90 : decode cX9_bestOpen 90 = .ok (.if_icmp .gt 6, 3) := by decide +kernel
theorem dX9_bestOpen_93 : decode cX9_bestOpen 93 = .ok (.goto 11, 3) := by decide +kernel
theorem dX9_bestOpen_96 : decode cX9_bestOpen 96 = .ok (.iload 6, 2) := by decide +kernel
theorem dX9_bestOpen_98 : decode cX9_bestOpen 98 = .ok (.istore 4, 2) := by decide +kernel
theorem dX9_bestOpen_100 : decode cX9_bestOpen 100 = .ok (.iload 7, 2) := by decide +kernel
theorem dX9_bestOpen_102 : decode cX9_bestOpen 102 = .ok (.istore 5, 2) := by decide +kernel
theorem dX9_bestOpen_104 : decode cX9_bestOpen 104 = .ok (.iinc 6 1, 3) := by decide +kernel
theorem dX9_bestOpen_107 : decode cX9_bestOpen 107 = .ok (.goto (-63), 3) := by decide +kernel
theorem dX9_bestOpen_110 : decode cX9_bestOpen 110 = .ok (.iload 4, 2) := by decide +kernel
theorem dX9_bestOpen_112 : decode cX9_bestOpen 112 = .ok (.ireturn, 1) := by decide +kernel
theorem dX9_homing_0 : decode cX9_homing 0 = .ok (.aload_n 0, 1) := by decide +kernel
theorem dX9_homing_1 : decode cX9_homing 1 = .ok (.iload_n 1, 1) := by decide +kernel
theorem dX9_homing_2 : decode cX9_homing 2 = .ok (.invokevirtual 129, 3) := by decide +kernel
theorem dX9_homing_5 : decode cX9_homing 5 = .ok (.ifCond .ne 9, 3) := by decide +kernel
theorem dX9_homing_8 : decode cX9_homing 8 = .ok (.aload_n 0, 1) := by decide +kernel
theorem dX9_homing_9 : decode cX9_homing 9 = .ok (.iconst (-1), 1) := by decide +kernel
theorem dX9_homing_10 : decode cX9_homing 10 = .ok (.invokevirtual 54, 3) := by decide +kernel
theorem dX9_homing_13 : decode cX9_homing 13 = .ok (.ireturn, 1) := by decide +kernel
theorem dX9_homing_14 : decode cX9_homing 14 = .ok (.aload_n 0, 1) := by decide +kernel
theorem dX9_homing_15 : decode cX9_homing 15 = .ok (.invokevirtual 135, 3) := by decide +kernel
theorem dX9_homing_18 : decode cX9_homing 18 = .ok (.bipush (-9), 2) := by decide +kernel
theorem dX9_homing_20 : decode cX9_homing 20 = .ok (.istore_n 2, 1) := by decide +kernel
theorem dX9_homing_21 : decode cX9_homing 21 = .ok (.iconst 0, 1) := by decide +kernel
theorem dX9_homing_22 : decode cX9_homing 22 = .ok (.istore_n 3, 1) := by decide +kernel
theorem dX9_homing_23 : decode cX9_homing 23 = .ok (.iload_n 3, 1) := by decide +kernel
theorem dX9_homing_24 : decode cX9_homing 24 = .ok (.bipush 40, 2) := by decide +kernel
theorem dX9_homing_26 : decode cX9_homing 26 = .ok (.if_icmp .gt 39, 3) := by decide +kernel
theorem dX9_homing_29 : decode cX9_homing 29 = .ok (.iload_n 2, 1) := by decide +kernel
theorem dX9_homing_30 : decode cX9_homing 30 = .ok (.ifCond .ge 35, 3) := by decide +kernel
theorem dX9_homing_33 : decode cX9_homing 33 = .ok (.aload_n 0, 1) := by decide +kernel
theorem dX9_homing_34 : decode cX9_homing 34 = .ok (.iload_n 1, 1) := by decide +kernel
theorem dX9_homing_35 : decode cX9_homing 35 = .ok (.iconst 3, 1) := by decide +kernel
theorem dX9_homing_36 : decode cX9_homing 36 = .ok (.invokevirtual 42, 3) := by decide +kernel
theorem dX9_homing_39 : decode cX9_homing 39 = .ok (.aload_n 0, 1) := by decide +kernel
theorem dX9_homing_40 : decode cX9_homing 40 = .ok (.iload_n 1, 1) := by decide +kernel
theorem dX9_homing_41 : decode cX9_homing 41 = .ok (.iconst 1, 1) := by decide +kernel
theorem dX9_homing_42 : decode cX9_homing 42 = .ok (.invokevirtual 42, 3) := by decide +kernel
theorem dX9_homing_45 : decode cX9_homing 45 = .ok (.if_icmp .ne 7, 3) := by decide +kernel
theorem dX9_homing_48 : decode cX9_homing 48 = .ok (.iload_n 3, 1) := by decide +kernel
theorem dX9_homing_49 : decode cX9_homing 49 = .ok (.goto 5, 3) := by decide +kernel
theorem dX9_homing_52 : decode cX9_homing 52 = .ok (.bipush (-9), 2) := by decide +kernel
theorem dX9_homing_54 : decode cX9_homing 54 = .ok (.istore_n 2, 1) := by decide +kernel
theorem dX9_homing_55 : decode cX9_homing 55 = .ok (.aload_n 0, 1) := by decide +kernel
theorem dX9_homing_56 : decode cX9_homing 56 = .ok (.invokevirtual 114, 3) := by decide +kernel
theorem dX9_homing_59 : decode cX9_homing 59 = .ok (.iinc 3 1, 3) := by decide +kernel
theorem dX9_homing_62 : decode cX9_homing 62 = .ok (.goto (-39), 3) := by decide +kernel
theorem dX9_homing_65 : decode cX9_homing 65 = .ok (.aload_n 0, 1) := by decide +kernel
theorem dX9_homing_66 : decode cX9_homing 66 = .ok (.invokevirtual 142, 3) := by decide +kernel
theorem dX9_homing_69 : decode cX9_homing 69 = .ok (.iload_n 2, 1) := by decide +kernel
theorem dX9_homing_70 : decode cX9_homing 70 = .ok (.ireturn, 1) := by decide +kernel
theorem dX9_spare_0 : decode cX9_spare 0 = .ok (.iload_n 1, 1) := by decide +kernel
theorem dX9_spare_1 : decode cX9_spare 1 = .ok (.iconst 0, 1) := by decide +kernel
theorem dX9_spare_2 : decode cX9_spare 2 = .ok (.bipush 40, 2) := by decide +kernel
theorem dX9_spare_4 : decode cX9_spare 4 = .ok (.invokestatic 46, 3) := by decide +kernel
theorem dX9_spare_7 : decode cX9_spare 7 = .ok (.istore_n 2, 1) := by decide +kernel
theorem dX9_spare_8 : decode cX9_spare 8 = .ok (.iload_n 2, 1) := by decide +kernel
theorem dX9_spare_9 : decode cX9_spare 9 = .ok (.ifCond .eq 9, 3) := by decide +kernel
theorem dX9_spare_12 : decode cX9_spare 12 = .ok (.aload_n 0, 1) := by decide +kernel
theorem dX9_spare_13 : decode cX9_spare 13 = .ok (.iload_n 2, 1) := by decide +kernel
theorem dX9_spare_14 : decode cX9_spare 14 = .ok (.invokevirtual 54, 3) := by decide +kernel
theorem dX9_spare_17 : decode cX9_spare 17 = .ok (.ireturn, 1) := by decide +kernel
theorem dX9_spare_18 : decode cX9_spare 18 = .ok (.aload_n 0, 1) := by decide +kernel
theorem dX9_spare_19 : decode cX9_spare 19 = .ok (.invokevirtual 132, 3) := by decide +kernel
theorem dX9_spare_22 : decode cX9_spare 22 = .ok (.istore_n 3, 1) := by decide +kernel
theorem dX9_spare_23 : decode cX9_spare 23 = .ok (.bipush (-9), 2) := by decide +kernel
theorem dX9_spare_25 : decode cX9_spare 25 = .ok (.istore 4, 2) := by decide +kernel
theorem dX9_spare_27 : decode cX9_spare 27 = .ok (.aload_n 0, 1) := by decide +kernel
theorem dX9_spare_28 : decode cX9_spare 28 = .ok (.invokevirtual 135, 3) := by decide +kernel
theorem dX9_spare_31 : decode cX9_spare 31 = .ok (.iconst 0, 1) := by decide +kernel
theorem dX9_spare_32 : decode cX9_spare 32 = .ok (.istore 5, 2) := by decide +kernel
theorem dX9_spare_34 : decode cX9_spare 34 = .ok (.iload 5, 2) := by decide +kernel
theorem dX9_spare_36 : decode cX9_spare 36 = .ok (.bipush 20, 2) := by decide +kernel
theorem dX9_spare_38 : decode cX9_spare 38 = .ok (.if_icmp .gt 48, 3) := by decide +kernel
theorem dX9_spare_41 : decode cX9_spare 41 = .ok (.iload 4, 2) := by decide +kernel
theorem dX9_spare_43 : decode cX9_spare 43 = .ok (.ifCond .ge 43, 3) := by decide +kernel
theorem dX9_spare_46 : decode cX9_spare 46 = .ok (.aload_n 0, 1) := by decide +kernel
theorem dX9_spare_47 : decode cX9_spare 47 = .ok (.getfield 13, 3) := by decide +kernel
theorem dX9_spare_50 : decode cX9_spare 50 = .ok (.iconst 3, 1) := by decide +kernel
theorem dX9_spare_51 : decode cX9_spare 51 = .ok (.iload 5, 2) := by decide +kernel
theorem dX9_spare_53 : decode cX9_spare 53 = .ok (.iastore, 1) := by decide +kernel
theorem dX9_spare_54 : decode cX9_spare 54 = .ok (.aload_n 0, 1) := by decide +kernel
theorem dX9_spare_55 : decode cX9_spare 55 = .ok (.iload_n 1, 1) := by decide +kernel
theorem dX9_spare_56 : decode cX9_spare 56 = .ok (.invokevirtual 138, 3) := by decide +kernel
theorem dX9_spare_59 : decode cX9_spare 59 = .ok (.aload_n 0, 1) := by decide +kernel
theorem dX9_spare_60 : decode cX9_spare 60 = .ok (.invokevirtual 132, 3) := by decide +kernel
theorem dX9_spare_63 : decode cX9_spare 63 = .ok (.iload_n 3, 1) := by decide +kernel
theorem dX9_spare_64 : decode cX9_spare 64 = .ok (.if_icmp .ne 8, 3) := by decide +kernel
theorem dX9_spare_67 : decode cX9_spare 67 = .ok (.iload 5, 2) := by decide +kernel
theorem dX9_spare_69 : decode cX9_spare 69 = .ok (.goto 5, 3) := by decide +kernel
theorem dX9_spare_72 : decode cX9_spare 72 = .ok (.bipush (-9), 2) := by decide +kernel
theorem dX9_spare_74 : decode cX9_spare 74 = .ok (.istore 4, 2) := by decide +kernel
theorem dX9_spare_76 : decode cX9_spare 76 = .ok (.aload_n 0, 1) := by decide +kernel
theorem dX9_spare_77 : decode cX9_spare 77 = .ok (.invokevirtual 142, 3) := by decide +kernel
theorem dX9_spare_80 : decode cX9_spare 80 = .ok (.iinc 5 1, 3) := by decide +kernel
theorem dX9_spare_83 : decode cX9_spare 83 = .ok (.goto (-49), 3) := by decide +kernel
theorem dX9_spare_86 : decode cX9_spare 86 = .ok (.iload 4, 2) := by decide +kernel
theorem dX9_spare_88 : decode cX9_spare 88 = .ok (.ireturn, 1) := by decide +kernel
theorem dX9_row_0 : decode cX9_row 0 = .ok (.iload_n 1, 1) := by decide +kernel
theorem dX9_row_1 : decode cX9_row 1 = .ok (.iconst 0, 1) := by decide +kernel
theorem dX9_row_2 : decode cX9_row 2 = .ok (.bipush 9, 2) := by decide +kernel
theorem dX9_row_4 : decode cX9_row 4 = .ok (.invokestatic 46, 3) := by decide +kernel
theorem dX9_row_7 : decode cX9_row 7 = .ok (.istore_n 2, 1) := by decide +kernel
theorem dX9_row_8 : decode cX9_row 8 = .ok (.iload_n 2, 1) := by decide +kernel
theorem dX9_row_9 : decode cX9_row 9 = .ok (.ifCond .ne 15, 3) := by decide +kernel
theorem dX9_row_12 : decode cX9_row 12 = .ok (.aload_n 0, 1) := by decide +kernel
theorem dX9_row_13 : decode cX9_row 13 = .ok (.getfield 161, 3) := by decide +kernel
theorem dX9_row_16 : decode cX9_row 16 = .ok (.bipush 8, 2) := by decide +kernel
theorem dX9_row_18 : decode cX9_row 18 = .ok (.if_icmp .ne 6, 3) := by decide +kernel
theorem dX9_row_21 : decode cX9_row 21 = .ok (.bipush (-6), 2) := by decide +kernel
theorem dX9_row_23 : decode cX9_row 23 = .ok (.istore_n 2, 1) := by decide +kernel
theorem dX9_row_24 : decode cX9_row 24 = .ok (.iload_n 2, 1) := by decide +kernel
theorem dX9_row_25 : decode cX9_row 25 = .ok (.ifCond .eq 9, 3) := by decide +kernel
theorem dX9_row_28 : decode cX9_row 28 = .ok (.aload_n 0, 1) := by decide +kernel
theorem dX9_row_29 : decode cX9_row 29 = .ok (.iload_n 2, 1) := by decide +kernel
theorem dX9_row_30 : decode cX9_row 30 = .ok (.invokevirtual 54, 3) := by decide +kernel
theorem dX9_row_33 : decode cX9_row 33 = .ok (.ireturn, 1) := by decide +kernel
theorem dX9_row_34 : decode cX9_row 34 = .ok (.aload_n 0, 1) := by decide +kernel
theorem dX9_row_35 : decode cX9_row 35 = .ok (.getfield 31, 3) := by decide +kernel
theorem dX9_row_38 : decode cX9_row 38 = .ok (.aload_n 0, 1) := by decide +kernel
theorem dX9_row_39 : decode cX9_row 39 = .ok (.getfield 161, 3) := by decide +kernel
theorem dX9_row_42 : decode cX9_row 42 = .ok (.iload_n 1, 1) := by decide +kernel
theorem dX9_row_43 : decode cX9_row 43 = .ok (.iastore, 1) := by decide +kernel
theorem dX9_row_44 : decode cX9_row 44 = .ok (.aload_n 0, 1) := by decide +kernel
theorem dX9_row_45 : decode cX9_row 45 = .ok (.dup, 1) := by decide +kernel
theorem dX9_row_46 : decode cX9_row 46 = .ok (.getfield 161, 3) := by decide +kernel
theorem dX9_row_49 : decode cX9_row 49 = .ok (.iconst 1, 1) := by decide +kernel
theorem dX9_row_50 : decode cX9_row 50 = .ok (.iadd, 1) := by decide +kernel
theorem dX9_row_51 : decode cX9_row 51 = .ok (.putfield 161, 3) := by decide +kernel
theorem dX9_row_54 : decode cX9_row 54 = .ok (.aload_n 0, 1) := by decide +kernel
theorem dX9_row_55 : decode cX9_row 55 = .ok (.getfield 161, 3) := by decide +kernel
theorem dX9_row_58 : decode cX9_row 58 = .ok (.ireturn, 1) := by decide +kernel
theorem dX9_isAsTold_0 : decode cX9_isAsTold 0 = .ok (.iconst 0, 1) := by decide +kernel
theorem dX9_isAsTold_1 : decode cX9_isAsTold 1 = .ok (.istore_n 1, 1) := by decide +kernel
theorem dX9_isAsTold_2 : decode cX9_isAsTold 2 = .ok (.iload_n 1, 1) := by decide +kernel
theorem dX9_isAsTold_3 : decode cX9_isAsTold 3 = .ok (.aload_n 0, 1) := by decide +kernel
theorem dX9_isAsTold_4 : decode cX9_isAsTold 4 = .ok (.getfield 161, 3) := by decide +kernel
theorem dX9_isAsTold_7 : decode cX9_isAsTold 7 = .ok (.if_icmp .ge 26, 3) := by decide +kernel
theorem dX9_isAsTold_10 : decode cX9_isAsTold 10 = .ok (.aload_n 0, 1) := by decide +kernel
theorem dX9_isAsTold_11 : decode cX9_isAsTold 11 = .ok (.getfield 31, 3) := by decide +kernel
theorem dX9_isAsTold_14 : decode cX9_isAsTold 14 = .ok (.iload_n 1, 1) := by decide +kernel
theorem dX9_isAsTold_15 : decode cX9_isAsTold 15 = .ok (.iaload, 1) := by decide +kernel
theorem dX9_isAsTold_16 : decode cX9_isAsTold 16 = .ok (.aload_n 0, 1) := by decide +kernel
theorem dX9_isAsTold_17 : decode cX9_isAsTold 17 = .ok (.iload_n 1, 1) := by decide +kernel
theorem dX9_isAsTold_18 : decode cX9_isAsTold 18 = .ok (.iconst 3, 1) := by decide +kernel
theorem dX9_isAsTold_19 : decode cX9_isAsTold 19 = .ok (.invokevirtual 42, 3) := by decide +kernel
theorem dX9_isAsTold_22 : decode cX9_isAsTold 22 = .ok (.if_icmp .eq 5, 3) := by decide +kernel
theorem dX9_isAsTold_25 : decode cX9_isAsTold 25 = .ok (.iconst 0, 1) := by decide +kernel
theorem dX9_isAsTold_26 : decode cX9_isAsTold 26 = .ok (.ireturn, 1) := by decide +kernel
theorem dX9_isAsTold_27 : decode cX9_isAsTold 27 = .ok (.iinc 1 1, 3) := by decide +kernel
theorem dX9_isAsTold_30 : decode cX9_isAsTold 30 = .ok (.goto (-28), 3) := by decide +kernel
theorem dX9_isAsTold_33 : decode cX9_isAsTold 33 = .ok (.iconst 1, 1) := by decide +kernel
theorem dX9_isAsTold_34 : decode cX9_isAsTold 34 = .ok (.ireturn, 1) := by decide +kernel
theorem dX9_paid_0 : decode cX9_paid 0 = .ok (.iload_n 1, 1) := by decide +kernel
theorem dX9_paid_1 : decode cX9_paid 1 = .ok (.iconst 2, 1) := by decide +kernel
theorem dX9_paid_2 : decode cX9_paid 2 = .ok (.invokestatic 38, 3) := by decide +kernel
theorem dX9_paid_5 : decode cX9_paid 5 = .ok (.ifCond .ne 8, 3) := by decide +kernel
theorem dX9_paid_8 : decode cX9_paid 8 = .ok (.bipush (-2), 2) := by decide +kernel
theorem dX9_paid_10 : decode cX9_paid 10 = .ok (.goto 22, 3) := by decide +kernel
theorem dX9_paid_13 : decode cX9_paid 13 = .ok (.aload_n 0, 1) := by decide +kernel
theorem dX9_paid_14 : decode cX9_paid 14 = .ok (.getfield 161, 3) := by decide +kernel
theorem dX9_paid_17 : decode cX9_paid 17 = .ok (.aload_n 0, 1) := by decide +kernel
theorem dX9_paid_18 : decode cX9_paid 18 = .ok (.getfield 13, 3) := by decide +kernel
theorem dX9_paid_21 : decode cX9_paid 21 = .ok (.iconst 1, 1) := by decide +kernel
theorem dX9_paid_22 : decode cX9_paid 22 = .ok (.iaload, 1) := by decide +kernel
theorem dX9_paid_23 : decode cX9_paid 23 = .ok (.if_icmp .eq 8, 3) := by decide +kernel
theorem dX9_paid_26 : decode cX9_paid 26 = .ok (.bipush (-3), 2) := by decide +kernel
theorem dX9_paid_28 : decode cX9_paid 28 = .ok (.goto 4, 3) := by decide +kernel
theorem dX9_paid_31 : decode cX9_paid 31 = .ok (.iconst 0, 1) := by decide +kernel
theorem dX9_paid_32 : decode cX9_paid 32 = .ok (.istore_n 2, 1) := by decide +kernel
theorem dX9_paid_33 : decode cX9_paid 33 = .ok (.iload_n 2, 1) := by decide +kernel
theorem dX9_paid_34 : decode cX9_paid 34 = .ok (.ifCond .eq 9, 3) := by decide +kernel
theorem dX9_paid_37 : decode cX9_paid 37 = .ok (.aload_n 0, 1) := by decide +kernel
theorem dX9_paid_38 : decode cX9_paid 38 = .ok (.iload_n 2, 1) := by decide +kernel
theorem dX9_paid_39 : decode cX9_paid 39 = .ok (.invokevirtual 54, 3) := by decide +kernel
theorem dX9_paid_42 : decode cX9_paid 42 = .ok (.ireturn, 1) := by decide +kernel
theorem dX9_paid_43 : decode cX9_paid 43 = .ok (.iconst 0, 1) := by decide +kernel
theorem dX9_paid_44 : decode cX9_paid 44 = .ok (.istore_n 3, 1) := by decide +kernel
theorem dX9_paid_45 : decode cX9_paid 45 = .ok (.bipush (-9), 2) := by decide +kernel
theorem dX9_paid_47 : decode cX9_paid 47 = .ok (.istore 4, 2) := by decide +kernel
theorem dX9_paid_49 : decode cX9_paid 49 = .ok (.aload_n 0, 1) := by decide +kernel
theorem dX9_paid_50 : decode cX9_paid 50 = .ok (.invokevirtual 135, 3) := by decide +kernel
theorem dX9_paid_53 : decode cX9_paid 53 = .ok (.iconst 0, 1) := by decide +kernel
theorem dX9_paid_54 : decode cX9_paid 54 = .ok (.istore 5, 2) := by decide +kernel
theorem dX9_paid_56 : decode cX9_paid 56 = .ok (.iload 5, 2) := by decide +kernel
theorem dX9_paid_58 : decode cX9_paid 58 = .ok (.bipush 10, 2) := by decide +kernel
theorem dX9_paid_60 : decode cX9_paid 60 = .ok (.aload_n 0, 1) := by decide +kernel
theorem dX9_paid_61 : decode cX9_paid 61 = .ok (.getfield 161, 3) := by decide +kernel
theorem dX9_paid_64 : decode cX9_paid 64 = .ok (.imul, 1) := by decide +kernel
theorem dX9_paid_65 : decode cX9_paid 65 = .ok (.if_icmp .ge 104, 3) := by decide +kernel
theorem dX9_paid_68 : decode cX9_paid 68 = .ok (.iload 5, 2) := by decide +kernel
theorem dX9_paid_70 : decode cX9_paid 70 = .ok (.bipush 10, 2) := by decide +kernel
theorem dX9_paid_72 : decode cX9_paid 72 = .ok (.idiv, 1) := by decide +kernel
theorem dX9_paid_73 : decode cX9_paid 73 = .ok (.istore 6, 2) := by decide +kernel
theorem dX9_paid_75 : decode cX9_paid 75 = .ok (.iload 5, 2) := by decide +kernel
theorem dX9_paid_77 : decode cX9_paid 77 = .ok (.bipush 10, 2) := by decide +kernel
theorem dX9_paid_79 : decode cX9_paid 79 = .ok (.irem, 1) := by decide +kernel
theorem dX9_paid_80 : decode cX9_paid 80 = .ok (.istore 7, 2) := by decide +kernel
theorem dX9_paid_82 : decode cX9_paid 82 = .ok (.aload_n 0, 1) := by decide +kernel
theorem dX9_paid_83 : decode cX9_paid 83 = .ok (.iload 7, 2) := by decide +kernel
theorem dX9_paid_85 : decode cX9_paid 85 = .ok (.invokevirtual 120, 3) := by decide +kernel
theorem dX9_paid_88 : decode cX9_paid 88 = .ok (.ifCond .eq 75, 3) := by decide +kernel
theorem dX9_paid_91 : decode cX9_paid 91 = .ok (.aload_n 0, 1) := by decide +kernel
theorem dX9_paid_92 : decode cX9_paid 92 = .ok (.iload 6, 2) := by decide +kernel
theorem dX9_paid_94 : decode cX9_paid 94 = .ok (.invokevirtual 94, 3) := by decide +kernel
theorem dX9_paid_97 : decode cX9_paid 97 = .ok (.ifCond .ne 66, 3) := by decide +kernel
theorem dX9_paid_100 : decode cX9_paid 100 = .ok (.aload_n 0, 1) := by decide +kernel
theorem dX9_paid_101 : decode cX9_paid 101 = .ok (.iload 6, 2) := by decide +kernel
theorem dX9_paid_103 : decode cX9_paid 103 = .ok (.iconst 3, 1) := by decide +kernel
theorem dX9_paid_104 : decode cX9_paid 104 = .ok (.invokevirtual 42, 3) := by decide +kernel
theorem dX9_paid_107 : decode cX9_paid 107 = .ok (.iload 7, 2) := by decide +kernel
theorem dX9_paid_109 : decode cX9_paid 109 = .ok (.if_icmp .ne 6, 3) := by decide +kernel
theorem dX9_paid_112 : decode cX9_paid 112 = .ok (.goto 51, 3) := by decide +kernel
theorem dX9_paid_115 : decode cX9_paid 115 = .ok (.aload_n 0, 1) := by decide +kernel
theorem dX9_paid_116 : decode cX9_paid 116 = .ok (.iload 6, 2) := by decide +kernel
theorem dX9_paid_118 : decode cX9_paid 118 = .ok (.iconst 3, 1) := by decide +kernel
theorem dX9_paid_119 : decode cX9_paid 119 = .ok (.iload 7, 2) := by decide +kernel
theorem dX9_paid_121 : decode cX9_paid 121 = .ok (.invokevirtual 103, 3) := by decide +kernel
theorem dX9_paid_124 : decode cX9_paid 124 = .ok (.aload_n 0, 1) := by decide +kernel
theorem dX9_paid_125 : decode cX9_paid 125 = .ok (.invokevirtual 114, 3) := by decide +kernel
theorem dX9_paid_128 : decode cX9_paid 128 = .ok (.aload_n 0, 1) := by decide +kernel
theorem dX9_paid_129 : decode cX9_paid 129 = .ok (.invokevirtual 164, 3) := by decide +kernel
theorem dX9_paid_132 : decode cX9_paid 132 = .ok (.istore 8, 2) := by decide +kernel
theorem dX9_paid_134 : decode cX9_paid 134 = .ok (.aload_n 0, 1) := by decide +kernel
theorem dX9_paid_135 : decode cX9_paid 135 = .ok (.invokevirtual 142, 3) := by decide +kernel
theorem dX9_paid_138 : decode cX9_paid 138 = .ok (.iload 8, 2) := by decide +kernel
theorem dX9_paid_140 : decode cX9_paid 140 = .ok (.ifCond .ne 6, 3) := by decide +kernel
theorem dX9_paid_143 : decode cX9_paid 143 = .ok (.goto 20, 3) := by decide +kernel
theorem dX9_paid_146 : decode cX9_paid 146 = .ok (.iinc 3 1, 3) := by decide +kernel
theorem dX9_paid_149 : decode cX9_paid 149 = .ok (.iload 4, 2) := by decide +kernel
theorem dX9_paid_151 : decode cX9_paid 151 = .ok (.ifCond .ge 8, 3) := by decide +kernel
theorem dX9_paid_154 : decode cX9_paid 154 = .ok (.iload 5, 2) := by decide +kernel
theorem dX9_paid_156 : decode cX9_paid 156 = .ok (.goto 5, 3) := by decide +kernel
theorem dX9_paid_159 : decode cX9_paid 159 = .ok (.iload 4, 2) := by decide +kernel
theorem dX9_paid_161 : decode cX9_paid 161 = .ok (.istore 4, 2) := by decide +kernel
theorem dX9_paid_163 : decode cX9_paid 163 = .ok (.iinc 5 1, 3) := by decide +kernel
theorem dX9_paid_166 : decode cX9_paid 166 = .ok (.goto (-110), 3) := by decide +kernel
theorem dX9_paid_169 : decode cX9_paid 169 = .ok (.iload_n 1, 1) := by decide +kernel
theorem dX9_paid_170 : decode cX9_paid 170 = .ok (.ifCond .ne 7, 3) := by decide +kernel
theorem dX9_paid_173 : decode cX9_paid 173 = .ok (.iload_n 3, 1) := by decide +kernel
theorem dX9_paid_174 : decode cX9_paid 174 = .ok (.goto 5, 3) := by decide +kernel
theorem dX9_paid_177 : decode cX9_paid 177 = .ok (.iload 4, 2) := by decide +kernel
theorem dX9_paid_179 : decode cX9_paid 179 = .ok (.ireturn, 1) := by decide +kernel
theorem dX9_judge_0 : decode cX9_judge 0 = .ok (.aload_n 0, 1) := by decide +kernel
theorem dX9_judge_1 : decode cX9_judge 1 = .ok (.getfield 161, 3) := by decide +kernel
theorem dX9_judge_4 : decode cX9_judge 4 = .ok (.istore_n 1, 1) := by decide +kernel
theorem dX9_judge_5 : decode cX9_judge 5 = .ok (.aload_n 0, 1) := by decide +kernel
theorem dX9_judge_6 : decode cX9_judge 6 = .ok (.iconst 0, 1) := by decide +kernel
theorem dX9_judge_7 : decode cX9_judge 7 = .ok (.putfield 161, 3) := by decide +kernel
theorem dX9_judge_10 : decode cX9_judge 10 = .ok (.iconst 0, 1) := by decide +kernel
theorem dX9_judge_11 : decode cX9_judge 11 = .ok (.istore_n 2, 1) := by decide +kernel
theorem dX9_judge_12 : decode cX9_judge 12 = .ok (.iload_n 2, 1) := by decide +kernel
theorem dX9_judge_13 : decode cX9_judge 13 = .ok (.iload_n 1, 1) := by decide +kernel
theorem dX9_judge_14 : decode cX9_judge 14 = .ok (.if_icmp .ge 36, 3) := by decide +kernel
theorem dX9_judge_17 : decode cX9_judge 17 = .ok (.iload_n 2, 1) := by decide +kernel
theorem dX9_judge_18 : decode cX9_judge 18 = .ok (.aload_n 0, 1) := by decide +kernel
theorem dX9_judge_19 : decode cX9_judge 19 = .ok (.getfield 13, 3) := by decide +kernel
theorem dX9_judge_22 : decode cX9_judge 22 = .ok (.iconst 1, 1) := by decide +kernel
theorem dX9_judge_23 : decode cX9_judge 23 = .ok (.iaload, 1) := by decide +kernel
theorem dX9_judge_24 : decode cX9_judge 24 = .ok (.if_icmp .eq 18, 3) := by decide +kernel
theorem dX9_judge_27 : decode cX9_judge 27 = .ok (.aload_n 0, 1) := by decide +kernel
theorem dX9_judge_28 : decode cX9_judge 28 = .ok (.getfield 31, 3) := by decide +kernel
theorem dX9_judge_31 : decode cX9_judge 31 = .ok (.iload_n 2, 1) := by decide +kernel
theorem dX9_judge_32 : decode cX9_judge 32 = .ok (.iaload, 1) := by decide +kernel
theorem dX9_judge_33 : decode cX9_judge 33 = .ok (.aload_n 0, 1) := by decide +kernel
theorem dX9_judge_34 : decode cX9_judge 34 = .ok (.iload_n 2, 1) := by decide +kernel
theorem dX9_judge_35 : decode cX9_judge 35 = .ok (.iconst 3, 1) := by decide +kernel
theorem dX9_judge_36 : decode cX9_judge 36 = .ok (.invokevirtual 42, 3) := by decide +kernel
theorem dX9_judge_39 : decode cX9_judge 39 = .ok (.if_icmp .eq 5, 3) := by decide +kernel
theorem dX9_judge_42 : decode cX9_judge 42 = .ok (.iload_n 2, 1) := by decide +kernel
theorem dX9_judge_43 : decode cX9_judge 43 = .ok (.ireturn, 1) := by decide +kernel
theorem dX9_judge_44 : decode cX9_judge 44 = .ok (.iinc 2 1, 3) := by decide +kernel
theorem dX9_judge_47 : decode cX9_judge 47 = .ok (.goto (-35), 3) := by decide +kernel
theorem dX9_judge_50 : decode cX9_judge 50 = .ok (.iload_n 1, 1) := by decide +kernel
theorem dX9_judge_51 : decode cX9_judge 51 = .ok (.aload_n 0, 1) := by decide +kernel
theorem dX9_judge_52 : decode cX9_judge 52 = .ok (.getfield 13, 3) := by decide +kernel
theorem dX9_judge_55 : decode cX9_judge 55 = .ok (.iconst 1, 1) := by decide +kernel
theorem dX9_judge_56 : decode cX9_judge 56 = .ok (.iaload, 1) := by decide +kernel
theorem dX9_judge_57 : decode cX9_judge 57 = .ok (.if_icmp .ge 7, 3) := by decide +kernel
theorem dX9_judge_60 : decode cX9_judge 60 = .ok (.iload_n 1, 1) := by decide +kernel
theorem dX9_judge_61 : decode cX9_judge 61 = .ok (.goto 5, 3) := by decide +kernel
theorem dX9_judge_64 : decode cX9_judge 64 = .ok (.bipush (-9), 2) := by decide +kernel
theorem dX9_judge_66 : decode cX9_judge 66 = .ok (.ireturn, 1) := by decide +kernel
theorem dX9_seeds_0 : decode cX9_seeds 0 = .ok (.aload_n 0, 1) := by decide +kernel
theorem dX9_seeds_1 : decode cX9_seeds 1 = .ok (.iload_n 3, 1) := by decide +kernel
theorem dX9_seeds_2 : decode cX9_seeds 2 = .ok (.invokevirtual 120, 3) := by decide +kernel
theorem dX9_seeds_5 : decode cX9_seeds 5 = .ok (.ifCond .ne 7, 3) := by decide +kernel
theorem dX9_seeds_8 : decode cX9_seeds 8 = .ok (.iconst (-1), 1) := by decide +kernel
theorem dX9_seeds_9 : decode cX9_seeds 9 = .ok (.goto 10, 3) := by decide +kernel
theorem dX9_seeds_12 : decode cX9_seeds 12 = .ok (.iload_n 1, 1) := by decide +kernel
theorem dX9_seeds_13 : decode cX9_seeds 13 = .ok (.iconst 1, 1) := by decide +kernel
theorem dX9_seeds_14 : decode cX9_seeds 14 = .ok (.bipush 30, 2) := by decide +kernel
theorem dX9_seeds_16 : decode cX9_seeds 16 = .ok (.invokestatic 46, 3) := by decide +kernel
theorem dX9_seeds_19 : decode cX9_seeds 19 = .ok (.istore 4, 2) := by decide +kernel
theorem dX9_seeds_21 : decode cX9_seeds 21 = .ok (.iload 4, 2) := by decide +kernel
theorem dX9_seeds_23 : decode cX9_seeds 23 = .ok (.ifCond .eq 10, 3) := by decide +kernel
theorem dX9_seeds_26 : decode cX9_seeds 26 = .ok (.aload_n 0, 1) := by decide +kernel
theorem dX9_seeds_27 : decode cX9_seeds 27 = .ok (.iload 4, 2) := by decide +kernel
theorem dX9_seeds_29 : decode cX9_seeds 29 = .ok (.invokevirtual 54, 3) := by decide +kernel
theorem dX9_seeds_32 : decode cX9_seeds 32 = .ok (.ireturn, 1) := by decide +kernel
theorem dX9_seeds_33 : decode cX9_seeds 33 = .ok (.aload_n 0, 1) := by decide +kernel
theorem dX9_seeds_34 : decode cX9_seeds 34 = .ok (.invokevirtual 135, 3) := by decide +kernel
theorem dX9_seeds_37 : decode cX9_seeds 37 = .ok (.iload_n 2, 1) := by decide +kernel
theorem dX9_seeds_38 : decode cX9_seeds 38 = .ok (.istore 5, 2) := by decide +kernel
theorem dX9_seeds_40 : decode cX9_seeds 40 = .ok (.iconst 0, 1) := by decide +kernel
theorem dX9_seeds_41 : decode cX9_seeds 41 = .ok (.istore 6, 2) := by decide +kernel
theorem dX9_seeds_43 : decode cX9_seeds 43 = .ok (.iload 6, 2) := by decide +kernel
theorem dX9_seeds_45 : decode cX9_seeds 45 = .ok (.iload_n 1, 1) := by decide +kernel
theorem dX9_seeds_46 : decode cX9_seeds 46 = .ok (.if_icmp .ge 47, 3) := by decide +kernel
theorem dX9_seeds_49 : decode cX9_seeds 49 = .ok (.iload 5, 2) := by decide +kernel
theorem dX9_seeds_51 : decode cX9_seeds 51 = .ok (.ldc 167, 2) := by decide +kernel
theorem dX9_seeds_53 : decode cX9_seeds 53 = .ok (.imul, 1) := by decide +kernel
theorem dX9_seeds_54 : decode cX9_seeds 54 = .ok (.ldc 168, 2) := by decide +kernel
theorem dX9_seeds_56 : decode cX9_seeds 56 = .ok (.iadd, 1) := by decide +kernel
theorem dX9_seeds_57 : decode cX9_seeds 57 = .ok (.istore 5, 2) := by decide +kernel
theorem dX9_seeds_59 : decode cX9_seeds 59 = .ok (.aload_n 0, 1) := by decide +kernel
theorem dX9_seeds_60 : decode cX9_seeds 60 = .ok (.getfield 13, 3) := by decide +kernel
theorem dX9_seeds_63 : decode cX9_seeds 63 = .ok (.iconst 2, 1) := by decide +kernel
theorem dX9_seeds_64 : decode cX9_seeds 64 = .ok (.iload 5, 2) := by decide +kernel
theorem dX9_seeds_66 : decode cX9_seeds 66 = .ok (.ldc 169, 2) := by decide +kernel
theorem dX9_seeds_68 : decode cX9_seeds 68 = .ok (.iand, 1) := by decide +kernel
theorem dX9_seeds_69 : decode cX9_seeds 69 = .ok (.sipush 256, 3) := by decide +kernel
theorem dX9_seeds_72 : decode cX9_seeds 72 = .ok (.idiv, 1) := by decide +kernel
theorem dX9_seeds_73 : decode cX9_seeds 73 = .ok (.iconst 1, 1) := by decide +kernel
theorem dX9_seeds_74 : decode cX9_seeds 74 = .ok (.aload_n 0, 1) := by decide +kernel
theorem dX9_seeds_75 : decode cX9_seeds 75 = .ok (.getfield 13, 3) := by decide +kernel
theorem dX9_seeds_78 : decode cX9_seeds 78 = .ok (.iconst 0, 1) := by decide +kernel
theorem dX9_seeds_79 : decode cX9_seeds 79 = .ok (.iaload, 1) := by decide +kernel
theorem dX9_seeds_80 : decode cX9_seeds 80 = .ok (.ishl, 1) := by decide +kernel
theorem dX9_seeds_81 : decode cX9_seeds 81 = .ok (.irem, 1) := by decide +kernel
theorem dX9_seeds_82 : decode cX9_seeds 82 = .ok (.iastore, 1) := by decide +kernel
theorem dX9_seeds_83 : decode cX9_seeds 83 = .ok (.aload_n 0, 1) := by decide +kernel
theorem dX9_seeds_84 : decode cX9_seeds 84 = .ok (.invokevirtual 114, 3) := by decide +kernel
theorem dX9_seeds_87 : decode cX9_seeds 87 = .ok (.iinc 6 1, 3) := by decide +kernel
theorem dX9_seeds_90 : decode cX9_seeds 90 = .ok (.goto (-47), 3) := by decide +kernel
theorem dX9_seeds_93 : decode cX9_seeds 93 = .ok (.aload_n 0, 1) := by decide +kernel
theorem dX9_seeds_94 : decode cX9_seeds 94 = .ok (.iload_n 3, 1) := by decide +kernel
theorem dX9_seeds_95 : decode cX9_seeds 95 = .ok (.invokevirtual 123, 3) := by decide +kernel
theorem dX9_seeds_98 : decode cX9_seeds 98 = .ok (.istore 6, 2) := by decide +kernel
theorem dX9_seeds_100 : decode cX9_seeds 100 = .ok (.aload_n 0, 1) := by decide +kernel
theorem dX9_seeds_101 : decode cX9_seeds 101 = .ok (.invokevirtual 142, 3) := by decide +kernel
theorem dX9_seeds_104 : decode cX9_seeds 104 = .ok (.iload 6, 2) := by decide +kernel
theorem dX9_seeds_106 : decode cX9_seeds 106 = .ok (.ireturn, 1) := by decide +kernel
theorem dX9_image_0 : decode cX9_image 0 = .ok (.aload_n 0, 1) := by decide +kernel
theorem dX9_image_1 : decode cX9_image 1 = .ok (.getfield 13, 3) := by decide +kernel
theorem dX9_image_4 : decode cX9_image 4 = .ok (.aload_n 0, 1) := by decide +kernel
theorem dX9_image_5 : decode cX9_image 5 = .ok (.getfield 16, 3) := by decide +kernel
theorem dX9_image_8 : decode cX9_image 8 = .ok (.invokestatic 34, 3) := by decide +kernel
theorem dX9_image_11 : decode cX9_image 11 = .ok (.aload_n 0, 1) := by decide +kernel
theorem dX9_image_12 : decode cX9_image 12 = .ok (.iconst 1, 1) := by decide +kernel
theorem dX9_image_13 : decode cX9_image 13 = .ok (.putfield 170, 3) := by decide +kernel
theorem dX9_image_16 : decode cX9_image 16 = .ok (.aload_n 0, 1) := by decide +kernel
theorem dX9_image_17 : decode cX9_image 17 = .ok (.getfield 13, 3) := by decide +kernel
theorem dX9_image_20 : decode cX9_image 20 = .ok (.iconst 4, 1) := by decide +kernel
theorem dX9_image_21 : decode cX9_image 21 = .ok (.iaload, 1) := by decide +kernel
theorem dX9_image_22 : decode cX9_image 22 = .ok (.ireturn, 1) := by decide +kernel
theorem dX9_on_0 : decode cX9_on 0 = .ok (.aload_n 0, 1) := by decide +kernel
theorem dX9_on_1 : decode cX9_on 1 = .ok (.getfield 170, 3) := by decide +kernel
theorem dX9_on_4 : decode cX9_on 4 = .ok (.ifCond .ne 10, 3) := by decide +kernel
theorem dX9_on_7 : decode cX9_on 7 = .ok (.aload_n 0, 1) := by decide +kernel
theorem dX9_on_8 : decode cX9_on 8 = .ok (.bipush (-3), 2) := by decide +kernel
theorem dX9_on_10 : decode cX9_on 10 = .ok (.invokevirtual 54, 3) := by decide +kernel
theorem dX9_on_13 : decode cX9_on 13 = .ok (.ireturn, 1) := by decide +kernel
theorem dX9_on_14 : decode cX9_on 14 = .ok (.aload_n 0, 1) := by decide +kernel
theorem dX9_on_15 : decode cX9_on 15 = .ok (.getfield 16, 3) := by decide +kernel
theorem dX9_on_18 : decode cX9_on 18 = .ok (.aload_n 0, 1) := by decide +kernel
theorem dX9_on_19 : decode cX9_on 19 = .ok (.getfield 13, 3) := by decide +kernel
theorem dX9_on_22 : decode cX9_on 22 = .ok (.invokestatic 34, 3) := by decide +kernel
theorem dX9_on_25 : decode cX9_on 25 = .ok (.aload_n 0, 1) := by decide +kernel
theorem dX9_on_26 : decode cX9_on 26 = .ok (.getfield 13, 3) := by decide +kernel
theorem dX9_on_29 : decode cX9_on 29 = .ok (.iconst 4, 1) := by decide +kernel
theorem dX9_on_30 : decode cX9_on 30 = .ok (.iaload, 1) := by decide +kernel
theorem dX9_on_31 : decode cX9_on 31 = .ok (.ireturn, 1) := by decide +kernel
theorem dX9_count_0 : decode cX9_count 0 = .ok (.iload_n 1, 1) := by decide +kernel
theorem dX9_count_1 : decode cX9_count 1 = .ok (.bipush 10, 2) := by decide +kernel
theorem dX9_count_3 : decode cX9_count 3 = .ok (.if_icmp .le 19, 3) := by decide +kernel
theorem dX9_count_6 : decode cX9_count 6 = .ok (.iload_n 1, 1) := by decide +kernel
theorem dX9_count_7 : decode cX9_count 7 = .ok (.bipush 17, 2) := by decide +kernel
theorem dX9_count_9 : decode cX9_count 9 = .ok (.if_icmp .ge 13, 3) := by decide +kernel
theorem dX9_count_12 : decode cX9_count 12 = .ok (.aload_n 0, 1) := by decide +kernel
theorem dX9_count_13 : decode cX9_count 13 = .ok (.getfield 7, 3) := by decide +kernel
theorem dX9_count_16 : decode cX9_count 16 = .ok (.iload_n 1, 1) := by decide +kernel
theorem dX9_count_17 : decode cX9_count 17 = .ok (.bipush 10, 2) := by decide +kernel
theorem dX9_count_19 : decode cX9_count 19 = .ok (.isub, 1) := by decide +kernel
theorem dX9_count_20 : decode cX9_count 20 = .ok (.iaload, 1) := by decide +kernel
theorem dX9_count_21 : decode cX9_count 21 = .ok (.ireturn, 1) := by decide +kernel
theorem dX9_count_22 : decode cX9_count 22 = .ok (.iconst 0, 1) := by decide +kernel
theorem dX9_count_23 : decode cX9_count 23 = .ok (.istore_n 2, 1) := by decide +kernel
theorem dX9_count_24 : decode cX9_count 24 = .ok (.iload_n 1, 1) := by decide +kernel
theorem dX9_count_25 : decode cX9_count 25 = .ok (.tableswitch 141 0 8 #[51, 58, 65, 72, 77, 84, 91, 131, 136], 51) := by decide +kernel
theorem dX9_count_76 : decode cX9_count 76 = .ok (.aload_n 0, 1) := by decide +kernel
theorem dX9_count_77 : decode cX9_count 77 = .ok (.getfield 13, 3) := by decide +kernel
theorem dX9_count_80 : decode cX9_count 80 = .ok (.iconst 0, 1) := by decide +kernel
theorem dX9_count_81 : decode cX9_count 81 = .ok (.iaload, 1) := by decide +kernel
theorem dX9_count_82 : decode cX9_count 82 = .ok (.ireturn, 1) := by decide +kernel
theorem dX9_count_83 : decode cX9_count 83 = .ok (.aload_n 0, 1) := by decide +kernel
theorem dX9_count_84 : decode cX9_count 84 = .ok (.getfield 13, 3) := by decide +kernel
theorem dX9_count_87 : decode cX9_count 87 = .ok (.iconst 1, 1) := by decide +kernel
theorem dX9_count_88 : decode cX9_count 88 = .ok (.iaload, 1) := by decide +kernel
theorem dX9_count_89 : decode cX9_count 89 = .ok (.ireturn, 1) := by decide +kernel
theorem dX9_count_90 : decode cX9_count 90 = .ok (.aload_n 0, 1) := by decide +kernel
theorem dX9_count_91 : decode cX9_count 91 = .ok (.getfield 13, 3) := by decide +kernel
theorem dX9_count_94 : decode cX9_count 94 = .ok (.iconst 4, 1) := by decide +kernel
theorem dX9_count_95 : decode cX9_count 95 = .ok (.iaload, 1) := by decide +kernel
theorem dX9_count_96 : decode cX9_count 96 = .ok (.ireturn, 1) := by decide +kernel
theorem dX9_count_97 : decode cX9_count 97 = .ok (.aload_n 0, 1) := by decide +kernel
theorem dX9_count_98 : decode cX9_count 98 = .ok (.invokevirtual 132, 3) := by decide +kernel
theorem dX9_count_101 : decode cX9_count 101 = .ok (.ireturn, 1) := by decide +kernel
theorem dX9_count_102 : decode cX9_count 102 = .ok (.aload_n 0, 1) := by decide +kernel
theorem dX9_count_103 : decode cX9_count 103 = .ok (.getfield 13, 3) := by decide +kernel
theorem dX9_count_106 : decode cX9_count 106 = .ok (.iconst 3, 1) := by decide +kernel
theorem dX9_count_107 : decode cX9_count 107 = .ok (.iaload, 1) := by decide +kernel
theorem dX9_count_108 : decode cX9_count 108 = .ok (.ireturn, 1) := by decide +kernel
theorem dX9_count_109 : decode cX9_count 109 = .ok (.aload_n 0, 1) := by decide +kernel
theorem dX9_count_110 : decode cX9_count 110 = .ok (.getfield 13, 3) := by decide +kernel
theorem dX9_count_113 : decode cX9_count 113 = .ok (.iconst 2, 1) := by decide +kernel
theorem dX9_count_114 : decode cX9_count 114 = .ok (.iaload, 1) := by decide +kernel
theorem dX9_count_115 : decode cX9_count 115 = .ok (.ireturn, 1) := by decide +kernel
theorem dX9_count_116 : decode cX9_count 116 = .ok (.iconst 0, 1) := by decide +kernel
theorem dX9_count_117 : decode cX9_count 117 = .ok (.istore_n 3, 1) := by decide +kernel
theorem dX9_count_118 : decode cX9_count 118 = .ok (.iload_n 3, 1) := by decide +kernel
theorem dX9_count_119 : decode cX9_count 119 = .ok (.aload_n 0, 1) := by decide +kernel
theorem dX9_count_120 : decode cX9_count 120 = .ok (.getfield 13, 3) := by decide +kernel
theorem dX9_count_123 : decode cX9_count 123 = .ok (.iconst 1, 1) := by decide +kernel
theorem dX9_count_124 : decode cX9_count 124 = .ok (.iaload, 1) := by decide +kernel
theorem dX9_count_125 : decode cX9_count 125 = .ok (.if_icmp .ge 29, 3) := by decide +kernel
theorem dX9_count_128 : decode cX9_count 128 = .ok (.iload_n 2, 1) := by decide +kernel
theorem dX9_count_129 : decode cX9_count 129 = .ok (.aload_n 0, 1) := by decide +kernel
theorem dX9_count_130 : decode cX9_count 130 = .ok (.iload_n 3, 1) := by decide +kernel
theorem dX9_count_131 : decode cX9_count 131 = .ok (.invokevirtual 94, 3) := by decide +kernel
theorem dX9_count_134 : decode cX9_count 134 = .ok (.ifCond .eq 7, 3) := by decide +kernel
theorem dX9_count_137 : decode cX9_count 137 = .ok (.iconst 0, 1) := by decide +kernel
theorem dX9_count_138 : decode cX9_count 138 = .ok (.goto 8, 3) := by decide +kernel
theorem dX9_count_141 : decode cX9_count 141 = .ok (.aload_n 0, 1) := by decide +kernel
theorem dX9_count_142 : decode cX9_count 142 = .ok (.iload_n 3, 1) := by decide +kernel
theorem dX9_count_143 : decode cX9_count 143 = .ok (.invokevirtual 117, 3) := by decide +kernel
theorem dX9_count_146 : decode cX9_count 146 = .ok (.iadd, 1) := by decide +kernel
theorem dX9_count_147 : decode cX9_count 147 = .ok (.istore_n 2, 1) := by decide +kernel
theorem dX9_count_148 : decode cX9_count 148 = .ok (.iinc 3 1, 3) := by decide +kernel
theorem dX9_count_151 : decode cX9_count 151 = .ok (.goto (-33), 3) := by decide +kernel
theorem dX9_count_154 : decode cX9_count 154 = .ok (.iload_n 2, 1) := by decide +kernel
theorem dX9_count_155 : decode cX9_count 155 = .ok (.ireturn, 1) := by decide +kernel
theorem dX9_count_156 : decode cX9_count 156 = .ok (.aload_n 0, 1) := by decide +kernel
theorem dX9_count_157 : decode cX9_count 157 = .ok (.getfield 161, 3) := by decide +kernel
theorem dX9_count_160 : decode cX9_count 160 = .ok (.ireturn, 1) := by decide +kernel
theorem dX9_count_161 : decode cX9_count 161 = .ok (.aload_n 0, 1) := by decide +kernel
theorem dX9_count_162 : decode cX9_count 162 = .ok (.getfield 50, 3) := by decide +kernel
theorem dX9_count_165 : decode cX9_count 165 = .ok (.ireturn, 1) := by decide +kernel
theorem dX9_count_166 : decode cX9_count 166 = .ok (.bipush (-9), 2) := by decide +kernel
theorem dX9_count_168 : decode cX9_count 168 = .ok (.ireturn, 1) := by decide +kernel
theorem dJ11_isValidCodePoint_9a6ad_0 : decode cJ11_isValidCodePoint_9a6ad 0 = .ok (.iload_n 0, 1) := by decide +kernel
theorem dJ11_isValidCodePoint_9a6ad_1 : decode cJ11_isValidCodePoint_9a6ad 1 = .ok (.bipush 16, 2) := by decide +kernel
theorem dJ11_isValidCodePoint_9a6ad_3 : decode cJ11_isValidCodePoint_9a6ad 3 = .ok (.iushr, 1) := by decide +kernel
theorem dJ11_isValidCodePoint_9a6ad_4 : decode cJ11_isValidCodePoint_9a6ad 4 = .ok (.istore_n 1, 1) := by decide +kernel
theorem dJ11_isValidCodePoint_9a6ad_5 : decode cJ11_isValidCodePoint_9a6ad 5 = .ok (.iload_n 1, 1) := by decide +kernel
theorem dJ11_isValidCodePoint_9a6ad_6 : decode cJ11_isValidCodePoint_9a6ad 6 = .ok (.bipush 17, 2) := by decide +kernel
theorem dJ11_isValidCodePoint_9a6ad_8 : decode cJ11_isValidCodePoint_9a6ad 8 = .ok (.if_icmp .ge 7, 3) := by decide +kernel
theorem dJ11_isValidCodePoint_9a6ad_11 : decode cJ11_isValidCodePoint_9a6ad 11 = .ok (.iconst 1, 1) := by decide +kernel
theorem dJ11_isValidCodePoint_9a6ad_12 : decode cJ11_isValidCodePoint_9a6ad 12 = .ok (.goto 4, 3) := by decide +kernel
theorem dJ11_isValidCodePoint_9a6ad_15 : decode cJ11_isValidCodePoint_9a6ad 15 = .ok (.iconst 0, 1) := by decide +kernel
theorem dJ11_isValidCodePoint_9a6ad_16 : decode cJ11_isValidCodePoint_9a6ad 16 = .ok (.ireturn, 1) := by decide +kernel
theorem dJ11_highSurrogate_5068e_0 : decode cJ11_highSurrogate_5068e 0 = .ok (.iload_n 0, 1) := by decide +kernel
theorem dJ11_highSurrogate_5068e_1 : decode cJ11_highSurrogate_5068e 1 = .ok (.bipush 10, 2) := by decide +kernel
theorem dJ11_highSurrogate_5068e_3 : decode cJ11_highSurrogate_5068e 3 = .ok (.iushr, 1) := by decide +kernel
theorem dJ11_highSurrogate_5068e_4 : decode cJ11_highSurrogate_5068e 4 = .ok (.ldc 110, 2) := by decide +kernel
theorem dJ11_highSurrogate_5068e_6 : decode cJ11_highSurrogate_5068e 6 = .ok (.iadd, 1) := by decide +kernel
theorem dJ11_highSurrogate_5068e_7 : decode cJ11_highSurrogate_5068e 7 = .ok (.i2c, 1) := by decide +kernel
theorem dJ11_highSurrogate_5068e_8 : decode cJ11_highSurrogate_5068e 8 = .ok (.ireturn, 1) := by decide +kernel
theorem dJ11_lowSurrogate_5068e_0 : decode cJ11_lowSurrogate_5068e 0 = .ok (.iload_n 0, 1) := by decide +kernel
theorem dJ11_lowSurrogate_5068e_1 : decode cJ11_lowSurrogate_5068e 1 = .ok (.sipush 1023, 3) := by decide +kernel
theorem dJ11_lowSurrogate_5068e_4 : decode cJ11_lowSurrogate_5068e 4 = .ok (.iand, 1) := by decide +kernel
theorem dJ11_lowSurrogate_5068e_5 : decode cJ11_lowSurrogate_5068e 5 = .ok (.ldc 76, 2) := by decide +kernel
theorem dJ11_lowSurrogate_5068e_7 : decode cJ11_lowSurrogate_5068e 7 = .ok (.iadd, 1) := by decide +kernel
theorem dJ11_lowSurrogate_5068e_8 : decode cJ11_lowSurrogate_5068e 8 = .ok (.i2c, 1) := by decide +kernel
theorem dJ11_lowSurrogate_5068e_9 : decode cJ11_lowSurrogate_5068e 9 = .ok (.ireturn, 1) := by decide +kernel
theorem dJ6_bitCount_0f7a4_0 : decode cJ6_bitCount_0f7a4 0 = .ok (.iload_n 0, 1) := by decide +kernel
theorem dJ6_bitCount_0f7a4_1 : decode cJ6_bitCount_0f7a4 1 = .ok (.iload_n 0, 1) := by decide +kernel
theorem dJ6_bitCount_0f7a4_2 : decode cJ6_bitCount_0f7a4 2 = .ok (.iconst 1, 1) := by decide +kernel
theorem dJ6_bitCount_0f7a4_3 : decode cJ6_bitCount_0f7a4 3 = .ok (.iushr, 1) := by decide +kernel
theorem dJ6_bitCount_0f7a4_4 : decode cJ6_bitCount_0f7a4 4 = .ok (.ldc_w 265, 3) := by decide +kernel
theorem dJ6_bitCount_0f7a4_7 : decode cJ6_bitCount_0f7a4 7 = .ok (.iand, 1) := by decide +kernel
theorem dJ6_bitCount_0f7a4_8 : decode cJ6_bitCount_0f7a4 8 = .ok (.isub, 1) := by decide +kernel
theorem dJ6_bitCount_0f7a4_9 : decode cJ6_bitCount_0f7a4 9 = .ok (.istore_n 0, 1) := by decide +kernel
theorem dJ6_bitCount_0f7a4_10 : decode cJ6_bitCount_0f7a4 10 = .ok (.iload_n 0, 1) := by decide +kernel
theorem dJ6_bitCount_0f7a4_11 : decode cJ6_bitCount_0f7a4 11 = .ok (.ldc_w 266, 3) := by decide +kernel
theorem dJ6_bitCount_0f7a4_14 : decode cJ6_bitCount_0f7a4 14 = .ok (.iand, 1) := by decide +kernel
theorem dJ6_bitCount_0f7a4_15 : decode cJ6_bitCount_0f7a4 15 = .ok (.iload_n 0, 1) := by decide +kernel
theorem dJ6_bitCount_0f7a4_16 : decode cJ6_bitCount_0f7a4 16 = .ok (.iconst 2, 1) := by decide +kernel
theorem dJ6_bitCount_0f7a4_17 : decode cJ6_bitCount_0f7a4 17 = .ok (.iushr, 1) := by decide +kernel
theorem dJ6_bitCount_0f7a4_18 : decode cJ6_bitCount_0f7a4 18 = .ok (.ldc_w 266, 3) := by decide +kernel
theorem dJ6_bitCount_0f7a4_21 : decode cJ6_bitCount_0f7a4 21 = .ok (.iand, 1) := by decide +kernel
theorem dJ6_bitCount_0f7a4_22 : decode cJ6_bitCount_0f7a4 22 = .ok (.iadd, 1) := by decide +kernel
theorem dJ6_bitCount_0f7a4_23 : decode cJ6_bitCount_0f7a4 23 = .ok (.istore_n 0, 1) := by decide +kernel
theorem dJ6_bitCount_0f7a4_24 : decode cJ6_bitCount_0f7a4 24 = .ok (.iload_n 0, 1) := by decide +kernel
theorem dJ6_bitCount_0f7a4_25 : decode cJ6_bitCount_0f7a4 25 = .ok (.iload_n 0, 1) := by decide +kernel
theorem dJ6_bitCount_0f7a4_26 : decode cJ6_bitCount_0f7a4 26 = .ok (.iconst 4, 1) := by decide +kernel
theorem dJ6_bitCount_0f7a4_27 : decode cJ6_bitCount_0f7a4 27 = .ok (.iushr, 1) := by decide +kernel
theorem dJ6_bitCount_0f7a4_28 : decode cJ6_bitCount_0f7a4 28 = .ok (.iadd, 1) := by decide +kernel
theorem dJ6_bitCount_0f7a4_29 : decode cJ6_bitCount_0f7a4 29 = .ok (.ldc_w 267, 3) := by decide +kernel
theorem dJ6_bitCount_0f7a4_32 : decode cJ6_bitCount_0f7a4 32 = .ok (.iand, 1) := by decide +kernel
theorem dJ6_bitCount_0f7a4_33 : decode cJ6_bitCount_0f7a4 33 = .ok (.istore_n 0, 1) := by decide +kernel
theorem dJ6_bitCount_0f7a4_34 : decode cJ6_bitCount_0f7a4 34 = .ok (.iload_n 0, 1) := by decide +kernel
theorem dJ6_bitCount_0f7a4_35 : decode cJ6_bitCount_0f7a4 35 = .ok (.iload_n 0, 1) := by decide +kernel
theorem dJ6_bitCount_0f7a4_36 : decode cJ6_bitCount_0f7a4 36 = .ok (.bipush 8, 2) := by decide +kernel
theorem dJ6_bitCount_0f7a4_38 : decode cJ6_bitCount_0f7a4 38 = .ok (.iushr, 1) := by decide +kernel
theorem dJ6_bitCount_0f7a4_39 : decode cJ6_bitCount_0f7a4 39 = .ok (.iadd, 1) := by decide +kernel
theorem dJ6_bitCount_0f7a4_40 : decode cJ6_bitCount_0f7a4 40 = .ok (.istore_n 0, 1) := by decide +kernel
theorem dJ6_bitCount_0f7a4_41 : decode cJ6_bitCount_0f7a4 41 = .ok (.iload_n 0, 1) := by decide +kernel
theorem dJ6_bitCount_0f7a4_42 : decode cJ6_bitCount_0f7a4 42 = .ok (.iload_n 0, 1) := by decide +kernel
theorem dJ6_bitCount_0f7a4_43 : decode cJ6_bitCount_0f7a4 43 = .ok (.bipush 16, 2) := by decide +kernel
theorem dJ6_bitCount_0f7a4_45 : decode cJ6_bitCount_0f7a4 45 = .ok (.iushr, 1) := by decide +kernel
theorem dJ6_bitCount_0f7a4_46 : decode cJ6_bitCount_0f7a4 46 = .ok (.iadd, 1) := by decide +kernel
theorem dJ6_bitCount_0f7a4_47 : decode cJ6_bitCount_0f7a4 47 = .ok (.istore_n 0, 1) := by decide +kernel
theorem dJ6_bitCount_0f7a4_48 : decode cJ6_bitCount_0f7a4 48 = .ok (.iload_n 0, 1) := by decide +kernel
theorem dJ6_bitCount_0f7a4_49 : decode cJ6_bitCount_0f7a4 49 = .ok (.bipush 63, 2) := by decide +kernel
theorem dJ6_bitCount_0f7a4_51 : decode cJ6_bitCount_0f7a4 51 = .ok (.iand, 1) := by decide +kernel
theorem dJ6_bitCount_0f7a4_52 : decode cJ6_bitCount_0f7a4 52 = .ok (.ireturn, 1) := by decide +kernel
theorem dJ9_max_7cf53_0 : decode cJ9_max_7cf53 0 = .ok (.iload_n 0, 1) := by decide +kernel
theorem dJ9_max_7cf53_1 : decode cJ9_max_7cf53 1 = .ok (.iload_n 1, 1) := by decide +kernel
theorem dJ9_max_7cf53_2 : decode cJ9_max_7cf53 2 = .ok (.if_icmp .lt 7, 3) := by decide +kernel
theorem dJ9_max_7cf53_5 : decode cJ9_max_7cf53 5 = .ok (.iload_n 0, 1) := by decide +kernel
theorem dJ9_max_7cf53_6 : decode cJ9_max_7cf53 6 = .ok (.goto 4, 3) := by decide +kernel
theorem dJ9_max_7cf53_9 : decode cJ9_max_7cf53 9 = .ok (.iload_n 1, 1) := by decide +kernel
theorem dJ9_max_7cf53_10 : decode cJ9_max_7cf53 10 = .ok (.ireturn, 1) := by decide +kernel
theorem dJ9_min_7cf53_0 : decode cJ9_min_7cf53 0 = .ok (.iload_n 0, 1) := by decide +kernel
theorem dJ9_min_7cf53_1 : decode cJ9_min_7cf53 1 = .ok (.iload_n 1, 1) := by decide +kernel
theorem dJ9_min_7cf53_2 : decode cJ9_min_7cf53 2 = .ok (.if_icmp .gt 7, 3) := by decide +kernel
theorem dJ9_min_7cf53_5 : decode cJ9_min_7cf53 5 = .ok (.iload_n 0, 1) := by decide +kernel
theorem dJ9_min_7cf53_6 : decode cJ9_min_7cf53 6 = .ok (.goto 4, 3) := by decide +kernel
theorem dJ9_min_7cf53_9 : decode cJ9_min_7cf53 9 = .ok (.iload_n 1, 1) := by decide +kernel
theorem dJ9_min_7cf53_10 : decode cJ9_min_7cf53 10 = .ok (.ireturn, 1) := by decide +kernel
theorem dJ0_length_8abf5_0 : decode cJ0_length_8abf5 0 = .ok (.aload_n 0, 1) := by decide +kernel
theorem dJ0_length_8abf5_1 : decode cJ0_length_8abf5 1 = .ok (.getfield 9, 3) := by decide +kernel
theorem dJ0_length_8abf5_4 : decode cJ0_length_8abf5 4 = .ok (.arraylength, 1) := by decide +kernel
theorem dJ0_length_8abf5_5 : decode cJ0_length_8abf5 5 = .ok (.aload_n 0, 1) := by decide +kernel
theorem dJ0_length_8abf5_6 : decode cJ0_length_8abf5 6 = .ok (.invokevirtual 335, 3) := by decide +kernel
theorem dJ0_length_8abf5_9 : decode cJ0_length_8abf5 9 = .ok (.ishr, 1) := by decide +kernel
theorem dJ0_length_8abf5_10 : decode cJ0_length_8abf5 10 = .ok (.ireturn, 1) := by decide +kernel
theorem dJ0_isEmpty_aae02_0 : decode cJ0_isEmpty_aae02 0 = .ok (.aload_n 0, 1) := by decide +kernel
theorem dJ0_isEmpty_aae02_1 : decode cJ0_isEmpty_aae02 1 = .ok (.getfield 9, 3) := by decide +kernel
theorem dJ0_isEmpty_aae02_4 : decode cJ0_isEmpty_aae02 4 = .ok (.arraylength, 1) := by decide +kernel
theorem dJ0_isEmpty_aae02_5 : decode cJ0_isEmpty_aae02 5 = .ok (.ifCond .ne 7, 3) := by decide +kernel
theorem dJ0_isEmpty_aae02_8 : decode cJ0_isEmpty_aae02 8 = .ok (.iconst 1, 1) := by decide +kernel
theorem dJ0_isEmpty_aae02_9 : decode cJ0_isEmpty_aae02 9 = .ok (.goto 4, 3) := by decide +kernel
theorem dJ0_isEmpty_aae02_12 : decode cJ0_isEmpty_aae02 12 = .ok (.iconst 0, 1) := by decide +kernel
theorem dJ0_isEmpty_aae02_13 : decode cJ0_isEmpty_aae02 13 = .ok (.ireturn, 1) := by decide +kernel
theorem dJ0_charAt_5068e_0 : decode cJ0_charAt_5068e 0 = .ok (.aload_n 0, 1) := by decide +kernel
theorem dJ0_charAt_5068e_1 : decode cJ0_charAt_5068e 1 = .ok (.invokevirtual 492, 3) := by decide +kernel
theorem dJ0_charAt_5068e_4 : decode cJ0_charAt_5068e 4 = .ok (.ifCond .eq 12, 3) := by decide +kernel
theorem dJ0_charAt_5068e_7 : decode cJ0_charAt_5068e 7 = .ok (.aload_n 0, 1) := by decide +kernel
theorem dJ0_charAt_5068e_8 : decode cJ0_charAt_5068e 8 = .ok (.getfield 9, 3) := by decide +kernel
theorem dJ0_charAt_5068e_11 : decode cJ0_charAt_5068e 11 = .ok (.iload_n 1, 1) := by decide +kernel
theorem dJ0_charAt_5068e_12 : decode cJ0_charAt_5068e 12 = .ok (.invokestatic 495, 3) := by decide +kernel
theorem dJ0_charAt_5068e_15 : decode cJ0_charAt_5068e 15 = .ok (.ireturn, 1) := by decide +kernel
theorem dJ0_charAt_5068e_16 : decode cJ0_charAt_5068e 16 = .ok (.aload_n 0, 1) := by decide +kernel
theorem dJ0_charAt_5068e_17 : decode cJ0_charAt_5068e 17 = .ok (.getfield 9, 3) := by decide +kernel
theorem dJ0_charAt_5068e_20 : decode cJ0_charAt_5068e 20 = .ok (.iload_n 1, 1) := by decide +kernel
theorem dJ0_charAt_5068e_21 : decode cJ0_charAt_5068e 21 = .ok (.invokestatic 498, 3) := by decide +kernel
theorem dJ0_charAt_5068e_24 : decode cJ0_charAt_5068e 24 = .ok (.ireturn, 1) := by decide +kernel
theorem dJ0_indexOf_0f7a4_0 : decode cJ0_indexOf_0f7a4 0 = .ok (.aload_n 0, 1) := by decide +kernel
theorem dJ0_indexOf_0f7a4_1 : decode cJ0_indexOf_0f7a4 1 = .ok (.iload_n 1, 1) := by decide +kernel
theorem dJ0_indexOf_0f7a4_2 : decode cJ0_indexOf_0f7a4 2 = .ok (.iconst 0, 1) := by decide +kernel
theorem dJ0_indexOf_0f7a4_3 : decode cJ0_indexOf_0f7a4 3 = .ok (.invokevirtual 633, 3) := by decide +kernel
theorem dJ0_indexOf_0f7a4_6 : decode cJ0_indexOf_0f7a4 6 = .ok (.ireturn, 1) := by decide +kernel
theorem dJ0_indexOf_7cf53_0 : decode cJ0_indexOf_7cf53 0 = .ok (.aload_n 0, 1) := by decide +kernel
theorem dJ0_indexOf_7cf53_1 : decode cJ0_indexOf_7cf53 1 = .ok (.invokevirtual 492, 3) := by decide +kernel
theorem dJ0_indexOf_7cf53_4 : decode cJ0_indexOf_7cf53 4 = .ok (.ifCond .eq 19, 3) := by decide +kernel
theorem dJ0_indexOf_7cf53_7 : decode cJ0_indexOf_7cf53 7 = .ok (.aload_n 0, 1) := by decide +kernel
theorem dJ0_indexOf_7cf53_8 : decode cJ0_indexOf_7cf53 8 = .ok (.getfield 9, 3) := by decide +kernel
theorem dJ0_indexOf_7cf53_11 : decode cJ0_indexOf_7cf53 11 = .ok (.iload_n 1, 1) := by decide +kernel
theorem dJ0_indexOf_7cf53_12 : decode cJ0_indexOf_7cf53 12 = .ok (.iload_n 2, 1) := by decide +kernel
theorem dJ0_indexOf_7cf53_13 : decode cJ0_indexOf_7cf53 13 = .ok (.aload_n 0, 1) := by decide +kernel
theorem dJ0_indexOf_7cf53_14 : decode cJ0_indexOf_7cf53 14 = .ok (.invokevirtual 505, 3) := by decide +kernel
theorem dJ0_indexOf_7cf53_17 : decode cJ0_indexOf_7cf53 17 = .ok (.invokestatic 637, 3) := by decide +kernel
theorem dJ0_indexOf_7cf53_20 : decode cJ0_indexOf_7cf53 20 = .ok (.goto 16, 3) := by decide +kernel
theorem dJ0_indexOf_7cf53_23 : decode cJ0_indexOf_7cf53 23 = .ok (.aload_n 0, 1) := by decide +kernel
theorem dJ0_indexOf_7cf53_24 : decode cJ0_indexOf_7cf53 24 = .ok (.getfield 9, 3) := by decide +kernel
theorem dJ0_indexOf_7cf53_27 : decode cJ0_indexOf_7cf53 27 = .ok (.iload_n 1, 1) := by decide +kernel
theorem dJ0_indexOf_7cf53_28 : decode cJ0_indexOf_7cf53 28 = .ok (.iload_n 2, 1) := by decide +kernel
theorem dJ0_indexOf_7cf53_29 : decode cJ0_indexOf_7cf53 29 = .ok (.aload_n 0, 1) := by decide +kernel
theorem dJ0_indexOf_7cf53_30 : decode cJ0_indexOf_7cf53 30 = .ok (.invokevirtual 505, 3) := by decide +kernel
theorem dJ0_indexOf_7cf53_33 : decode cJ0_indexOf_7cf53 33 = .ok (.invokestatic 640, 3) := by decide +kernel
theorem dJ0_indexOf_7cf53_36 : decode cJ0_indexOf_7cf53 36 = .ok (.ireturn, 1) := by decide +kernel
theorem dJ0_coder_7d493_0 : decode cJ0_coder_7d493 0 = .ok (.getstatic 38, 3) := by decide +kernel
theorem dJ0_coder_7d493_3 : decode cJ0_coder_7d493 3 = .ok (.ifCond .eq 10, 3) := by decide +kernel
theorem dJ0_coder_7d493_6 : decode cJ0_coder_7d493 6 = .ok (.aload_n 0, 1) := by decide +kernel
theorem dJ0_coder_7d493_7 : decode cJ0_coder_7d493 7 = .ok (.getfield 15, 3) := by decide +kernel
theorem dJ0_coder_7d493_10 : decode cJ0_coder_7d493 10 = .ok (.goto 4, 3) := by decide +kernel
theorem dJ0_coder_7d493_13 : decode cJ0_coder_7d493 13 = .ok (.iconst 1, 1) := by decide +kernel
theorem dJ0_coder_7d493_14 : decode cJ0_coder_7d493 14 = .ok (.ireturn, 1) := by decide +kernel
theorem dJ0_isLatin1_aae02_0 : decode cJ0_isLatin1_aae02 0 = .ok (.getstatic 38, 3) := by decide +kernel
theorem dJ0_isLatin1_aae02_3 : decode cJ0_isLatin1_aae02 3 = .ok (.ifCond .eq 14, 3) := by decide +kernel
theorem dJ0_isLatin1_aae02_6 : decode cJ0_isLatin1_aae02 6 = .ok (.aload_n 0, 1) := by decide +kernel
theorem dJ0_isLatin1_aae02_7 : decode cJ0_isLatin1_aae02 7 = .ok (.getfield 15, 3) := by decide +kernel
theorem dJ0_isLatin1_aae02_10 : decode cJ0_isLatin1_aae02 10 = .ok (.ifCond .ne 7, 3) := by decide +kernel
theorem dJ0_isLatin1_aae02_13 : decode cJ0_isLatin1_aae02 13 = .ok (.iconst 1, 1) := by decide +kernel
theorem dJ0_isLatin1_aae02_14 : decode cJ0_isLatin1_aae02 14 = .ok (.goto 4, 3) := by decide +kernel
theorem dJ0_isLatin1_aae02_17 : decode cJ0_isLatin1_aae02 17 = .ok (.iconst 0, 1) := by decide +kernel
theorem dJ0_isLatin1_aae02_18 : decode cJ0_isLatin1_aae02 18 = .ok (.ireturn, 1) := by decide +kernel
theorem dJ0_checkIndex_df160_0 : decode cJ0_checkIndex_df160 0 = .ok (.iload_n 0, 1) := by decide +kernel
theorem dJ0_checkIndex_df160_1 : decode cJ0_checkIndex_df160 1 = .ok (.iload_n 1, 1) := by decide +kernel
theorem dJ0_checkIndex_df160_2 : decode cJ0_checkIndex_df160 2 = .ok (.getstatic 1053, 3) := by decide +kernel
theorem dJ0_checkIndex_df160_5 : decode cJ0_checkIndex_df160 5 = .ok (.invokestatic 1059, 3) := by decide +kernel
theorem dJ0_checkIndex_df160_8 : decode cJ0_checkIndex_df160 8 = .ok (.pop, 1) := by decide +kernel
theorem dJ0_checkIndex_df160_9 : decode cJ0_checkIndex_df160 9 = .ok (.return_, 1) := by decide +kernel
theorem dJ0_checkBoundsBeginEnd_23922_0 : decode cJ0_checkBoundsBeginEnd_23922 0 = .ok (.iload_n 0, 1) := by decide +kernel
theorem dJ0_checkBoundsBeginEnd_23922_1 : decode cJ0_checkBoundsBeginEnd_23922 1 = .ok (.iload_n 1, 1) := by decide +kernel
theorem dJ0_checkBoundsBeginEnd_23922_2 : decode cJ0_checkBoundsBeginEnd_23922 2 = .ok (.iload_n 2, 1) := by decide +kernel
theorem dJ0_checkBoundsBeginEnd_23922_3 : decode cJ0_checkBoundsBeginEnd_23922 3 = .ok (.getstatic 1053, 3) := by decide +kernel
theorem dJ0_checkBoundsBeginEnd_23922_6 : decode cJ0_checkBoundsBeginEnd_23922 6 = .ok (.invokestatic 1062, 3) := by decide +kernel
theorem dJ0_checkBoundsBeginEnd_23922_9 : decode cJ0_checkBoundsBeginEnd_23922 9 = .ok (.pop, 1) := by decide +kernel
theorem dJ0_checkBoundsBeginEnd_23922_10 : decode cJ0_checkBoundsBeginEnd_23922 10 = .ok (.return_, 1) := by decide +kernel
theorem dJ1_charAt_3b067_0 : decode cJ1_charAt_3b067 0 = .ok (.iload_n 1, 1) := by decide +kernel
theorem dJ1_charAt_3b067_1 : decode cJ1_charAt_3b067 1 = .ok (.aload_n 0, 1) := by decide +kernel
theorem dJ1_charAt_3b067_2 : decode cJ1_charAt_3b067 2 = .ok (.arraylength, 1) := by decide +kernel
theorem dJ1_charAt_3b067_3 : decode cJ1_charAt_3b067 3 = .ok (.invokestatic 9, 3) := by decide +kernel
theorem dJ1_charAt_3b067_6 : decode cJ1_charAt_3b067 6 = .ok (.aload_n 0, 1) := by decide +kernel
theorem dJ1_charAt_3b067_7 : decode cJ1_charAt_3b067 7 = .ok (.iload_n 1, 1) := by decide +kernel
theorem dJ1_charAt_3b067_8 : decode cJ1_charAt_3b067 8 = .ok (.baload, 1) := by decide +kernel
theorem dJ1_charAt_3b067_9 : decode cJ1_charAt_3b067 9 = .ok (.sipush 255, 3) := by decide +kernel
theorem dJ1_charAt_3b067_12 : decode cJ1_charAt_3b067 12 = .ok (.iand, 1) := by decide +kernel
theorem dJ1_charAt_3b067_13 : decode cJ1_charAt_3b067 13 = .ok (.i2c, 1) := by decide +kernel
theorem dJ1_charAt_3b067_14 : decode cJ1_charAt_3b067 14 = .ok (.ireturn, 1) := by decide +kernel
theorem dJ1_canEncode_9a6ad_0 : decode cJ1_canEncode_9a6ad 0 = .ok (.iload_n 0, 1) := by decide +kernel
theorem dJ1_canEncode_9a6ad_1 : decode cJ1_canEncode_9a6ad 1 = .ok (.ifCond .lt 14, 3) := by decide +kernel
theorem dJ1_canEncode_9a6ad_4 : decode cJ1_canEncode_9a6ad 4 = .ok (.iload_n 0, 1) := by decide +kernel
theorem dJ1_canEncode_9a6ad_5 : decode cJ1_canEncode_9a6ad 5 = .ok (.sipush 255, 3) := by decide +kernel
theorem dJ1_canEncode_9a6ad_8 : decode cJ1_canEncode_9a6ad 8 = .ok (.if_icmp .gt 7, 3) := by decide +kernel
theorem dJ1_canEncode_9a6ad_11 : decode cJ1_canEncode_9a6ad 11 = .ok (.iconst 1, 1) := by decide +kernel
theorem dJ1_canEncode_9a6ad_12 : decode cJ1_canEncode_9a6ad 12 = .ok (.goto 4, 3) := by decide +kernel
theorem dJ1_canEncode_9a6ad_15 : decode cJ1_canEncode_9a6ad 15 = .ok (.iconst 0, 1) := by decide +kernel
theorem dJ1_canEncode_9a6ad_16 : decode cJ1_canEncode_9a6ad 16 = .ok (.ireturn, 1) := by decide +kernel
theorem dJ1_indexOf_4cfef_0 : decode cJ1_indexOf_4cfef 0 = .ok (.iload_n 1, 1) := by decide +kernel
theorem dJ1_indexOf_4cfef_1 : decode cJ1_indexOf_4cfef 1 = .ok (.invokestatic 88, 3) := by decide +kernel
theorem dJ1_indexOf_4cfef_4 : decode cJ1_indexOf_4cfef 4 = .ok (.ifCond .ne 5, 3) := by decide +kernel
theorem dJ1_indexOf_4cfef_7 : decode cJ1_indexOf_4cfef 7 = .ok (.iconst (-1), 1) := by decide +kernel
theorem dJ1_indexOf_4cfef_8 : decode cJ1_indexOf_4cfef 8 = .ok (.ireturn, 1) := by decide +kernel
theorem dJ1_indexOf_4cfef_9 : decode cJ1_indexOf_4cfef 9 = .ok (.iload_n 2, 1) := by decide +kernel
theorem dJ1_indexOf_4cfef_10 : decode cJ1_indexOf_4cfef 10 = .ok (.iconst 0, 1) := by decide +kernel
theorem dJ1_indexOf_4cfef_11 : decode cJ1_indexOf_4cfef 11 = .ok (.invokestatic 92, 3) := by decide +kernel
theorem dJ1_indexOf_4cfef_14 : decode cJ1_indexOf_4cfef 14 = .ok (.istore_n 2, 1) := by decide +kernel
theorem dJ1_indexOf_4cfef_15 : decode cJ1_indexOf_4cfef 15 = .ok (.iload_n 3, 1) := by decide +kernel
theorem dJ1_indexOf_4cfef_16 : decode cJ1_indexOf_4cfef 16 = .ok (.aload_n 0, 1) := by decide +kernel
theorem dJ1_indexOf_4cfef_17 : decode cJ1_indexOf_4cfef 17 = .ok (.arraylength, 1) := by decide +kernel
theorem dJ1_indexOf_4cfef_18 : decode cJ1_indexOf_4cfef 18 = .ok (.invokestatic 38, 3) := by decide +kernel
theorem dJ1_indexOf_4cfef_21 : decode cJ1_indexOf_4cfef 21 = .ok (.istore_n 3, 1) := by decide +kernel
theorem dJ1_indexOf_4cfef_22 : decode cJ1_indexOf_4cfef 22 = .ok (.iload_n 2, 1) := by decide +kernel
theorem dJ1_indexOf_4cfef_23 : decode cJ1_indexOf_4cfef 23 = .ok (.iload_n 3, 1) := by decide +kernel
theorem dJ1_indexOf_4cfef_24 : decode cJ1_indexOf_4cfef 24 = .ok (.if_icmp .lt 5, 3) := by decide +kernel
theorem dJ1_indexOf_4cfef_27 : decode cJ1_indexOf_4cfef 27 = .ok (.iconst (-1), 1) := by decide +kernel
theorem dJ1_indexOf_4cfef_28 : decode cJ1_indexOf_4cfef 28 = .ok (.ireturn, 1) := by decide +kernel
theorem dJ1_indexOf_4cfef_29 : decode cJ1_indexOf_4cfef 29 = .ok (.aload_n 0, 1) := by decide +kernel
theorem dJ1_indexOf_4cfef_30 : decode cJ1_indexOf_4cfef 30 = .ok (.iload_n 1, 1) := by decide +kernel
theorem dJ1_indexOf_4cfef_31 : decode cJ1_indexOf_4cfef 31 = .ok (.iload_n 2, 1) := by decide +kernel
theorem dJ1_indexOf_4cfef_32 : decode cJ1_indexOf_4cfef 32 = .ok (.iload_n 3, 1) := by decide +kernel
theorem dJ1_indexOf_4cfef_33 : decode cJ1_indexOf_4cfef 33 = .ok (.invokestatic 95, 3) := by decide +kernel
theorem dJ1_indexOf_4cfef_36 : decode cJ1_indexOf_4cfef 36 = .ok (.ireturn, 1) := by decide +kernel
theorem dJ1_indexOfChar_4cfef_0 : decode cJ1_indexOfChar_4cfef 0 = .ok (.iload_n 1, 1) := by decide +kernel
theorem dJ1_indexOfChar_4cfef_1 : decode cJ1_indexOfChar_4cfef 1 = .ok (.i2b, 1) := by decide +kernel
theorem dJ1_indexOfChar_4cfef_2 : decode cJ1_indexOfChar_4cfef 2 = .ok (.istore 4, 2) := by decide +kernel
theorem dJ1_indexOfChar_4cfef_4 : decode cJ1_indexOfChar_4cfef 4 = .ok (.iload_n 2, 1) := by decide +kernel
theorem dJ1_indexOfChar_4cfef_5 : decode cJ1_indexOfChar_4cfef 5 = .ok (.istore 5, 2) := by decide +kernel
theorem dJ1_indexOfChar_4cfef_7 : decode cJ1_indexOfChar_4cfef 7 = .ok (.iload 5, 2) := by decide +kernel
theorem dJ1_indexOfChar_4cfef_9 : decode cJ1_indexOfChar_4cfef 9 = .ok (.iload_n 3, 1) := by decide +kernel
theorem dJ1_indexOfChar_4cfef_10 : decode cJ1_indexOfChar_4cfef 10 = .ok (.if_icmp .ge 21, 3) := by decide +kernel
theorem dJ1_indexOfChar_4cfef_13 : decode cJ1_indexOfChar_4cfef 13 = .ok (.aload_n 0, 1) := by decide +kernel
theorem dJ1_indexOfChar_4cfef_14 : decode cJ1_indexOfChar_4cfef 14 = .ok (.iload 5, 2) := by decide +kernel
theorem dJ1_indexOfChar_4cfef_16 : decode cJ1_indexOfChar_4cfef 16 = .ok (.baload, 1) := by decide +kernel
theorem dJ1_indexOfChar_4cfef_17 : decode cJ1_indexOfChar_4cfef 17 = .ok (.iload 4, 2) := by decide +kernel
theorem dJ1_indexOfChar_4cfef_19 : decode cJ1_indexOfChar_4cfef 19 = .ok (.if_icmp .ne 6, 3) := by decide +kernel
theorem dJ1_indexOfChar_4cfef_22 : decode cJ1_indexOfChar_4cfef 22 = .ok (.iload 5, 2) := by decide +kernel
theorem dJ1_indexOfChar_4cfef_24 : decode cJ1_indexOfChar_4cfef 24 = .ok (.ireturn, 1) := by decide +kernel
theorem dJ1_indexOfChar_4cfef_25 : decode cJ1_indexOfChar_4cfef 25 = .ok (.iinc 5 1, 3) := by decide +kernel
theorem dJ1_indexOfChar_4cfef_28 : decode cJ1_indexOfChar_4cfef 28 = .ok (.goto (-21), 3) := by decide +kernel
theorem dJ1_indexOfChar_4cfef_31 : decode cJ1_indexOfChar_4cfef 31 = .ok (.iconst (-1), 1) := by decide +kernel
theorem dJ1_indexOfChar_4cfef_32 : decode cJ1_indexOfChar_4cfef 32 = .ok (.ireturn, 1) := by decide +kernel
theorem dJ2_getChar_3b067_0 : decode cJ2_getChar_3b067 0 = .ok (.getstatic 44, 3) := by decide +kernel
theorem dJ2_getChar_3b067_3 : decode cJ2_getChar_3b067 3 = .ok (.ifCond .ne 25, 3) := by decide +kernel
theorem dJ2_getChar_3b067_6 : decode cJ2_getChar_3b067 6 = .ok (.iload_n 1, 1) := by decide +kernel
theorem dJ2_getChar_3b067_7 : decode cJ2_getChar_3b067 7 = .ok (.ifCond .lt 11, 3) := by decide +kernel
theorem dJ2_getChar_3b067_10 : decode cJ2_getChar_3b067 10 = .ok (.iload_n 1, 1) := by decide +kernel
theorem dJ2_getChar_3b067_11 : decode cJ2_getChar_3b067 11 = .ok (.aload_n 0, 1) := by decide +kernel
theorem dJ2_getChar_3b067_12 : decode cJ2_getChar_3b067 12 = .ok (.invokestatic 48, 3) := by decide +kernel
theorem dJ2_getChar_3b067_15 : decode cJ2_getChar_3b067 15 = .ok (.if_icmp .lt 13, 3) := by decide +kernel
theorem dJ2_getChar_3b067_18 : decode cJ2_getChar_3b067 18 = .ok (.new 52, 3) := by decide +kernel
theorem dJ2_getChar_3b067_21 : decode cJ2_getChar_3b067 21 = .ok (.dup, 1) := by decide +kernel
theorem dJ2_getChar_3b067_22 : decode cJ2_getChar_3b067 22 = .ok (.ldc 54, 2) := by decide +kernel
theorem dJ2_getChar_3b067_24 : decode cJ2_getChar_3b067 24 = .ok (.invokespecial 56, 3) := by decide +kernel
theorem dJ2_getChar_3b067_27 : decode cJ2_getChar_3b067 27 = .ok (.athrow, 1) := by decide +kernel
theorem dJ2_getChar_3b067_28 : decode cJ2_getChar_3b067 28 = .ok (.iload_n 1, 1) := by decide +kernel
theorem dJ2_getChar_3b067_29 : decode cJ2_getChar_3b067 29 = .ok (.iconst 1, 1) := by decide +kernel
theorem dJ2_getChar_3b067_30 : decode cJ2_getChar_3b067 30 = .ok (.ishl, 1) := by decide +kernel
theorem dJ2_getChar_3b067_31 : decode cJ2_getChar_3b067 31 = .ok (.istore_n 1, 1) := by decide +kernel
theorem dJ2_getChar_3b067_32 : decode cJ2_getChar_3b067 32 = .ok (.aload_n 0, 1) := by decide +kernel
theorem dJ2_getChar_3b067_33 : decode cJ2_getChar_3b067 33 = .ok (.iload_n 1, 1) := by decide +kernel
theorem dJ2_getChar_3b067_34 : decode cJ2_getChar_3b067 34 = .ok (.iinc 1 1, 3) := by decide +kernel
theorem dJ2_getChar_3b067_37 : decode cJ2_getChar_3b067 37 = .ok (.baload, 1) := by decide +kernel
theorem dJ2_getChar_3b067_38 : decode cJ2_getChar_3b067 38 = .ok (.sipush 255, 3) := by decide +kernel
theorem dJ2_getChar_3b067_41 : decode cJ2_getChar_3b067 41 = .ok (.iand, 1) := by decide +kernel
theorem dJ2_getChar_3b067_42 : decode cJ2_getChar_3b067 42 = .ok (.getstatic 59, 3) := by decide +kernel
theorem dJ2_getChar_3b067_45 : decode cJ2_getChar_3b067 45 = .ok (.ishl, 1) := by decide +kernel
theorem dJ2_getChar_3b067_46 : decode cJ2_getChar_3b067 46 = .ok (.aload_n 0, 1) := by decide +kernel
theorem dJ2_getChar_3b067_47 : decode cJ2_getChar_3b067 47 = .ok (.iload_n 1, 1) := by decide +kernel
theorem dJ2_getChar_3b067_48 : decode cJ2_getChar_3b067 48 = .ok (.baload, 1) := by decide +kernel
theorem dJ2_getChar_3b067_49 : decode cJ2_getChar_3b067 49 = .ok (.sipush 255, 3) := by decide +kernel
theorem dJ2_getChar_3b067_52 : decode cJ2_getChar_3b067 52 = .ok (.iand, 1) := by decide +kernel
theorem dJ2_getChar_3b067_53 : decode cJ2_getChar_3b067 53 = .ok (.getstatic 63, 3) := by decide +kernel
theorem dJ2_getChar_3b067_56 : decode cJ2_getChar_3b067 56 = .ok (.ishl, 1) := by decide +kernel
theorem dJ2_getChar_3b067_57 : decode cJ2_getChar_3b067 57 = .ok (.ior, 1) := by decide +kernel
theorem dJ2_getChar_3b067_58 : decode cJ2_getChar_3b067 58 = .ok (.i2c, 1) := by decide +kernel
theorem dJ2_getChar_3b067_59 : decode cJ2_getChar_3b067 59 = .ok (.ireturn, 1) := by decide +kernel
theorem dJ2_length_9d52b_0 : decode cJ2_length_9d52b 0 = .ok (.aload_n 0, 1) := by decide +kernel
theorem dJ2_length_9d52b_1 : decode cJ2_length_9d52b 1 = .ok (.arraylength, 1) := by decide +kernel
theorem dJ2_length_9d52b_2 : decode cJ2_length_9d52b 2 = .ok (.iconst 1, 1) := by decide +kernel
theorem dJ2_length_9d52b_3 : decode cJ2_length_9d52b 3 = .ok (.ishr, 1) := by decide +kernel
theorem dJ2_length_9d52b_4 : decode cJ2_length_9d52b 4 = .ok (.ireturn, 1) := by decide +kernel
theorem dJ2_indexOf_4cfef_0 : decode cJ2_indexOf_4cfef 0 = .ok (.iload_n 2, 1) := by decide +kernel
theorem dJ2_indexOf_4cfef_1 : decode cJ2_indexOf_4cfef 1 = .ok (.iconst 0, 1) := by decide +kernel
theorem dJ2_indexOf_4cfef_2 : decode cJ2_indexOf_4cfef 2 = .ok (.invokestatic 224, 3) := by decide +kernel
theorem dJ2_indexOf_4cfef_5 : decode cJ2_indexOf_4cfef 5 = .ok (.istore_n 2, 1) := by decide +kernel
theorem dJ2_indexOf_4cfef_6 : decode cJ2_indexOf_4cfef 6 = .ok (.iload_n 3, 1) := by decide +kernel
theorem dJ2_indexOf_4cfef_7 : decode cJ2_indexOf_4cfef 7 = .ok (.aload_n 0, 1) := by decide +kernel
theorem dJ2_indexOf_4cfef_8 : decode cJ2_indexOf_4cfef 8 = .ok (.arraylength, 1) := by decide +kernel
theorem dJ2_indexOf_4cfef_9 : decode cJ2_indexOf_4cfef 9 = .ok (.iconst 1, 1) := by decide +kernel
theorem dJ2_indexOf_4cfef_10 : decode cJ2_indexOf_4cfef 10 = .ok (.ishr, 1) := by decide +kernel
theorem dJ2_indexOf_4cfef_11 : decode cJ2_indexOf_4cfef 11 = .ok (.invokestatic 183, 3) := by decide +kernel
theorem dJ2_indexOf_4cfef_14 : decode cJ2_indexOf_4cfef 14 = .ok (.istore_n 3, 1) := by decide +kernel
theorem dJ2_indexOf_4cfef_15 : decode cJ2_indexOf_4cfef 15 = .ok (.iload_n 2, 1) := by decide +kernel
theorem dJ2_indexOf_4cfef_16 : decode cJ2_indexOf_4cfef 16 = .ok (.iload_n 3, 1) := by decide +kernel
theorem dJ2_indexOf_4cfef_17 : decode cJ2_indexOf_4cfef 17 = .ok (.if_icmp .lt 5, 3) := by decide +kernel
theorem dJ2_indexOf_4cfef_20 : decode cJ2_indexOf_4cfef 20 = .ok (.iconst (-1), 1) := by decide +kernel
theorem dJ2_indexOf_4cfef_21 : decode cJ2_indexOf_4cfef 21 = .ok (.ireturn, 1) := by decide +kernel
theorem dJ2_indexOf_4cfef_22 : decode cJ2_indexOf_4cfef 22 = .ok (.iload_n 1, 1) := by decide +kernel
theorem dJ2_indexOf_4cfef_23 : decode cJ2_indexOf_4cfef 23 = .ok (.ldc 227, 2) := by decide +kernel
theorem dJ2_indexOf_4cfef_25 : decode cJ2_indexOf_4cfef 25 = .ok (.if_icmp .ge 11, 3) := by decide +kernel
theorem dJ2_indexOf_4cfef_28 : decode cJ2_indexOf_4cfef 28 = .ok (.aload_n 0, 1) := by decide +kernel
theorem dJ2_indexOf_4cfef_29 : decode cJ2_indexOf_4cfef 29 = .ok (.iload_n 1, 1) := by decide +kernel
theorem dJ2_indexOf_4cfef_30 : decode cJ2_indexOf_4cfef 30 = .ok (.iload_n 2, 1) := by decide +kernel
theorem dJ2_indexOf_4cfef_31 : decode cJ2_indexOf_4cfef 31 = .ok (.iload_n 3, 1) := by decide +kernel
theorem dJ2_indexOf_4cfef_32 : decode cJ2_indexOf_4cfef 32 = .ok (.invokestatic 228, 3) := by decide +kernel
theorem dJ2_indexOf_4cfef_35 : decode cJ2_indexOf_4cfef 35 = .ok (.ireturn, 1) := by decide +kernel
theorem dJ2_indexOf_4cfef_36 : decode cJ2_indexOf_4cfef 36 = .ok (.aload_n 0, 1) := by decide +kernel
theorem dJ2_indexOf_4cfef_37 : decode cJ2_indexOf_4cfef 37 = .ok (.iload_n 1, 1) := by decide +kernel
theorem dJ2_indexOf_4cfef_38 : decode cJ2_indexOf_4cfef 38 = .ok (.iload_n 2, 1) := by decide +kernel
theorem dJ2_indexOf_4cfef_39 : decode cJ2_indexOf_4cfef 39 = .ok (.iload_n 3, 1) := by decide +kernel
theorem dJ2_indexOf_4cfef_40 : decode cJ2_indexOf_4cfef 40 = .ok (.invokestatic 232, 3) := by decide +kernel
theorem dJ2_indexOf_4cfef_43 : decode cJ2_indexOf_4cfef 43 = .ok (.ireturn, 1) := by decide +kernel
theorem dJ2_indexOfChar_4cfef_0 : decode cJ2_indexOfChar_4cfef 0 = .ok (.iload_n 2, 1) := by decide +kernel
theorem dJ2_indexOfChar_4cfef_1 : decode cJ2_indexOfChar_4cfef 1 = .ok (.iload_n 3, 1) := by decide +kernel
theorem dJ2_indexOfChar_4cfef_2 : decode cJ2_indexOfChar_4cfef 2 = .ok (.aload_n 0, 1) := by decide +kernel
theorem dJ2_indexOfChar_4cfef_3 : decode cJ2_indexOfChar_4cfef 3 = .ok (.invokestatic 96, 3) := by decide +kernel
theorem dJ2_indexOfChar_4cfef_6 : decode cJ2_indexOfChar_4cfef 6 = .ok (.aload_n 0, 1) := by decide +kernel
theorem dJ2_indexOfChar_4cfef_7 : decode cJ2_indexOfChar_4cfef 7 = .ok (.iload_n 1, 1) := by decide +kernel
theorem dJ2_indexOfChar_4cfef_8 : decode cJ2_indexOfChar_4cfef 8 = .ok (.iload_n 2, 1) := by decide +kernel
theorem dJ2_indexOfChar_4cfef_9 : decode cJ2_indexOfChar_4cfef 9 = .ok (.iload_n 3, 1) := by decide +kernel
theorem dJ2_indexOfChar_4cfef_10 : decode cJ2_indexOfChar_4cfef 10 = .ok (.invokestatic 244, 3) := by decide +kernel
theorem dJ2_indexOfChar_4cfef_13 : decode cJ2_indexOfChar_4cfef 13 = .ok (.ireturn, 1) := by decide +kernel
theorem dJ2_indexOfCharUnsafe_4cfef_0 : decode cJ2_indexOfCharUnsafe_4cfef 0 = .ok (.iload_n 2, 1) := by decide +kernel
theorem dJ2_indexOfCharUnsafe_4cfef_1 : decode cJ2_indexOfCharUnsafe_4cfef 1 = .ok (.istore 4, 2) := by decide +kernel
theorem dJ2_indexOfCharUnsafe_4cfef_3 : decode cJ2_indexOfCharUnsafe_4cfef 3 = .ok (.iload 4, 2) := by decide +kernel
theorem dJ2_indexOfCharUnsafe_4cfef_5 : decode cJ2_indexOfCharUnsafe_4cfef 5 = .ok (.iload_n 3, 1) := by decide +kernel
theorem dJ2_indexOfCharUnsafe_4cfef_6 : decode cJ2_indexOfCharUnsafe_4cfef 6 = .ok (.if_icmp .ge 22, 3) := by decide +kernel
theorem dJ2_indexOfCharUnsafe_4cfef_9 : decode cJ2_indexOfCharUnsafe_4cfef 9 = .ok (.aload_n 0, 1) := by decide +kernel
theorem dJ2_indexOfCharUnsafe_4cfef_10 : decode cJ2_indexOfCharUnsafe_4cfef 10 = .ok (.iload 4, 2) := by decide +kernel
theorem dJ2_indexOfCharUnsafe_4cfef_12 : decode cJ2_indexOfCharUnsafe_4cfef 12 = .ok (.invokestatic 71, 3) := by decide +kernel
theorem dJ2_indexOfCharUnsafe_4cfef_15 : decode cJ2_indexOfCharUnsafe_4cfef 15 = .ok (.iload_n 1, 1) := by decide +kernel
theorem dJ2_indexOfCharUnsafe_4cfef_16 : decode cJ2_indexOfCharUnsafe_4cfef 16 = .ok (.if_icmp .ne 6, 3) := by decide +kernel
theorem dJ2_indexOfCharUnsafe_4cfef_19 : decode cJ2_indexOfCharUnsafe_4cfef 19 = .ok (.iload 4, 2) := by decide +kernel
theorem dJ2_indexOfCharUnsafe_4cfef_21 : decode cJ2_indexOfCharUnsafe_4cfef 21 = .ok (.ireturn, 1) := by decide +kernel
theorem dJ2_indexOfCharUnsafe_4cfef_22 : decode cJ2_indexOfCharUnsafe_4cfef 22 = .ok (.iinc 4 1, 3) := by decide +kernel
theorem dJ2_indexOfCharUnsafe_4cfef_25 : decode cJ2_indexOfCharUnsafe_4cfef 25 = .ok (.goto (-22), 3) := by decide +kernel
theorem dJ2_indexOfCharUnsafe_4cfef_28 : decode cJ2_indexOfCharUnsafe_4cfef 28 = .ok (.iconst (-1), 1) := by decide +kernel
theorem dJ2_indexOfCharUnsafe_4cfef_29 : decode cJ2_indexOfCharUnsafe_4cfef 29 = .ok (.ireturn, 1) := by decide +kernel
theorem dJ2_indexOfSupplementary_4cfef_0 : decode cJ2_indexOfSupplementary_4cfef 0 = .ok (.iload_n 1, 1) := by decide +kernel
theorem dJ2_indexOfSupplementary_4cfef_1 : decode cJ2_indexOfSupplementary_4cfef 1 = .ok (.invokestatic 164, 3) := by decide +kernel
theorem dJ2_indexOfSupplementary_4cfef_4 : decode cJ2_indexOfSupplementary_4cfef 4 = .ok (.ifCond .eq 65, 3) := by decide +kernel
theorem dJ2_indexOfSupplementary_4cfef_7 : decode cJ2_indexOfSupplementary_4cfef 7 = .ok (.iload_n 1, 1) := by decide +kernel
theorem dJ2_indexOfSupplementary_4cfef_8 : decode cJ2_indexOfSupplementary_4cfef 8 = .ok (.invokestatic 157, 3) := by decide +kernel
theorem dJ2_indexOfSupplementary_4cfef_11 : decode cJ2_indexOfSupplementary_4cfef 11 = .ok (.istore 4, 2) := by decide +kernel
theorem dJ2_indexOfSupplementary_4cfef_13 : decode cJ2_indexOfSupplementary_4cfef 13 = .ok (.iload_n 1, 1) := by decide +kernel
theorem dJ2_indexOfSupplementary_4cfef_14 : decode cJ2_indexOfSupplementary_4cfef 14 = .ok (.invokestatic 161, 3) := by decide +kernel
theorem dJ2_indexOfSupplementary_4cfef_17 : decode cJ2_indexOfSupplementary_4cfef 17 = .ok (.istore 5, 2) := by decide +kernel
theorem dJ2_indexOfSupplementary_4cfef_19 : decode cJ2_indexOfSupplementary_4cfef 19 = .ok (.iload_n 2, 1) := by decide +kernel
theorem dJ2_indexOfSupplementary_4cfef_20 : decode cJ2_indexOfSupplementary_4cfef 20 = .ok (.iload_n 3, 1) := by decide +kernel
theorem dJ2_indexOfSupplementary_4cfef_21 : decode cJ2_indexOfSupplementary_4cfef 21 = .ok (.aload_n 0, 1) := by decide +kernel
theorem dJ2_indexOfSupplementary_4cfef_22 : decode cJ2_indexOfSupplementary_4cfef 22 = .ok (.invokestatic 96, 3) := by decide +kernel
theorem dJ2_indexOfSupplementary_4cfef_25 : decode cJ2_indexOfSupplementary_4cfef 25 = .ok (.iload_n 2, 1) := by decide +kernel
theorem dJ2_indexOfSupplementary_4cfef_26 : decode cJ2_indexOfSupplementary_4cfef 26 = .ok (.istore 6, 2) := by decide +kernel
theorem dJ2_indexOfSupplementary_4cfef_28 : decode cJ2_indexOfSupplementary_4cfef 28 = .ok (.iload 6, 2) := by decide +kernel
theorem dJ2_indexOfSupplementary_4cfef_30 : decode cJ2_indexOfSupplementary_4cfef 30 = .ok (.iload_n 3, 1) := by decide +kernel
theorem dJ2_indexOfSupplementary_4cfef_31 : decode cJ2_indexOfSupplementary_4cfef 31 = .ok (.iconst 1, 1) := by decide +kernel
theorem dJ2_indexOfSupplementary_4cfef_32 : decode cJ2_indexOfSupplementary_4cfef 32 = .ok (.isub, 1) := by decide +kernel
theorem dJ2_indexOfSupplementary_4cfef_33 : decode cJ2_indexOfSupplementary_4cfef 33 = .ok (.if_icmp .ge 36, 3) := by decide +kernel
theorem dJ2_indexOfSupplementary_4cfef_36 : decode cJ2_indexOfSupplementary_4cfef 36 = .ok (.aload_n 0, 1) := by decide +kernel
theorem dJ2_indexOfSupplementary_4cfef_37 : decode cJ2_indexOfSupplementary_4cfef 37 = .ok (.iload 6, 2) := by decide +kernel
theorem dJ2_indexOfSupplementary_4cfef_39 : decode cJ2_indexOfSupplementary_4cfef 39 = .ok (.invokestatic 71, 3) := by decide +kernel
theorem dJ2_indexOfSupplementary_4cfef_42 : decode cJ2_indexOfSupplementary_4cfef 42 = .ok (.iload 4, 2) := by decide +kernel
theorem dJ2_indexOfSupplementary_4cfef_44 : decode cJ2_indexOfSupplementary_4cfef 44 = .ok (.if_icmp .ne 19, 3) := by decide +kernel
theorem dJ2_indexOfSupplementary_4cfef_47 : decode cJ2_indexOfSupplementary_4cfef 47 = .ok (.aload_n 0, 1) := by decide +kernel
theorem dJ2_indexOfSupplementary_4cfef_48 : decode cJ2_indexOfSupplementary_4cfef 48 = .ok (.iload 6, 2) := by decide +kernel
theorem dJ2_indexOfSupplementary_4cfef_50 : decode cJ2_indexOfSupplementary_4cfef 50 = .ok (.iconst 1, 1) := by decide +kernel
theorem dJ2_indexOfSupplementary_4cfef_51 : decode cJ2_indexOfSupplementary_4cfef 51 = .ok (.iadd, 1) := by decide +kernel
theorem dJ2_indexOfSupplementary_4cfef_52 : decode cJ2_indexOfSupplementary_4cfef 52 = .ok (.invokestatic 71, 3) := by decide +kernel
theorem dJ2_indexOfSupplementary_4cfef_55 : decode cJ2_indexOfSupplementary_4cfef 55 = .ok (.iload 5, 2) := by decide +kernel
theorem dJ2_indexOfSupplementary_4cfef_57 : decode cJ2_indexOfSupplementary_4cfef 57 = .ok (.if_icmp .ne 6, 3) := by decide +kernel
theorem dJ2_indexOfSupplementary_4cfef_60 : decode cJ2_indexOfSupplementary_4cfef 60 = .ok (.iload 6, 2) := by decide +kernel
theorem dJ2_indexOfSupplementary_4cfef_62 : decode cJ2_indexOfSupplementary_4cfef 62 = .ok (.ireturn, 1) := by decide +kernel
theorem dJ2_indexOfSupplementary_4cfef_63 : decode cJ2_indexOfSupplementary_4cfef 63 = .ok (.iinc 6 1, 3) := by decide +kernel
theorem dJ2_indexOfSupplementary_4cfef_66 : decode cJ2_indexOfSupplementary_4cfef 66 = .ok (.goto (-38), 3) := by decide +kernel
theorem dJ2_indexOfSupplementary_4cfef_69 : decode cJ2_indexOfSupplementary_4cfef 69 = .ok (.iconst (-1), 1) := by decide +kernel
theorem dJ2_indexOfSupplementary_4cfef_70 : decode cJ2_indexOfSupplementary_4cfef 70 = .ok (.ireturn, 1) := by decide +kernel
theorem dJ2_charAt_3b067_0 : decode cJ2_charAt_3b067 0 = .ok (.iload_n 1, 1) := by decide +kernel
theorem dJ2_charAt_3b067_1 : decode cJ2_charAt_3b067 1 = .ok (.aload_n 0, 1) := by decide +kernel
theorem dJ2_charAt_3b067_2 : decode cJ2_charAt_3b067 2 = .ok (.invokestatic 67, 3) := by decide +kernel
theorem dJ2_charAt_3b067_5 : decode cJ2_charAt_3b067 5 = .ok (.aload_n 0, 1) := by decide +kernel
theorem dJ2_charAt_3b067_6 : decode cJ2_charAt_3b067 6 = .ok (.iload_n 1, 1) := by decide +kernel
theorem dJ2_charAt_3b067_7 : decode cJ2_charAt_3b067 7 = .ok (.invokestatic 71, 3) := by decide +kernel
theorem dJ2_charAt_3b067_10 : decode cJ2_charAt_3b067 10 = .ok (.ireturn, 1) := by decide +kernel
theorem dJ2_checkIndex_2214a_0 : decode cJ2_checkIndex_2214a 0 = .ok (.iload_n 0, 1) := by decide +kernel
theorem dJ2_checkIndex_2214a_1 : decode cJ2_checkIndex_2214a 1 = .ok (.aload_n 1, 1) := by decide +kernel
theorem dJ2_checkIndex_2214a_2 : decode cJ2_checkIndex_2214a 2 = .ok (.invokestatic 48, 3) := by decide +kernel
theorem dJ2_checkIndex_2214a_5 : decode cJ2_checkIndex_2214a 5 = .ok (.invokestatic 414, 3) := by decide +kernel
theorem dJ2_checkIndex_2214a_8 : decode cJ2_checkIndex_2214a 8 = .ok (.return_, 1) := by decide +kernel
theorem dJ2_checkBoundsBeginEnd_d044e_0 : decode cJ2_checkBoundsBeginEnd_d044e 0 = .ok (.iload_n 0, 1) := by decide +kernel
theorem dJ2_checkBoundsBeginEnd_d044e_1 : decode cJ2_checkBoundsBeginEnd_d044e 1 = .ok (.iload_n 1, 1) := by decide +kernel
theorem dJ2_checkBoundsBeginEnd_d044e_2 : decode cJ2_checkBoundsBeginEnd_d044e 2 = .ok (.aload_n 2, 1) := by decide +kernel
theorem dJ2_checkBoundsBeginEnd_d044e_3 : decode cJ2_checkBoundsBeginEnd_d044e 3 = .ok (.invokestatic 48, 3) := by decide +kernel
theorem dJ2_checkBoundsBeginEnd_d044e_6 : decode cJ2_checkBoundsBeginEnd_d044e 6 = .ok (.invokestatic 241, 3) := by decide +kernel
theorem dJ2_checkBoundsBeginEnd_d044e_9 : decode cJ2_checkBoundsBeginEnd_d044e 9 = .ok (.return_, 1) := by decide +kernel
theorem dJ3_checkIndex_8e157_0 : decode cJ3_checkIndex_8e157 0 = .ok (.iload_n 0, 1) := by decide +kernel
theorem dJ3_checkIndex_8e157_1 : decode cJ3_checkIndex_8e157 1 = .ok (.ifCond .lt 8, 3) := by decide +kernel
theorem dJ3_checkIndex_8e157_4 : decode cJ3_checkIndex_8e157 4 = .ok (.iload_n 0, 1) := by decide +kernel
theorem dJ3_checkIndex_8e157_5 : decode cJ3_checkIndex_8e157 5 = .ok (.iload_n 1, 1) := by decide +kernel
theorem dJ3_checkIndex_8e157_6 : decode cJ3_checkIndex_8e157 6 = .ok (.if_icmp .lt 10, 3) := by decide +kernel
theorem dJ3_checkIndex_8e157_9 : decode cJ3_checkIndex_8e157 9 = .ok (.aload_n 2, 1) := by decide +kernel
theorem dJ3_checkIndex_8e157_10 : decode cJ3_checkIndex_8e157 10 = .ok (.iload_n 0, 1) := by decide +kernel
theorem dJ3_checkIndex_8e157_11 : decode cJ3_checkIndex_8e157 11 = .ok (.iload_n 1, 1) := by decide +kernel
theorem dJ3_checkIndex_8e157_12 : decode cJ3_checkIndex_8e157 12 = .ok (.invokestatic 95, 3) := by decide +kernel
theorem dJ3_checkIndex_8e157_15 : decode cJ3_checkIndex_8e157 15 = .ok (.athrow, 1) := by decide +kernel
theorem dJ3_checkIndex_8e157_16 : decode cJ3_checkIndex_8e157 16 = .ok (.iload_n 0, 1) := by decide +kernel
theorem dJ3_checkIndex_8e157_17 : decode cJ3_checkIndex_8e157 17 = .ok (.ireturn, 1) := by decide +kernel
theorem dJ3_checkFromToIndex_8c36e_0 : decode cJ3_checkFromToIndex_8c36e 0 = .ok (.iload_n 0, 1) := by decide +kernel
theorem dJ3_checkFromToIndex_8c36e_1 : decode cJ3_checkFromToIndex_8c36e 1 = .ok (.ifCond .lt 13, 3) := by decide +kernel
theorem dJ3_checkFromToIndex_8c36e_4 : decode cJ3_checkFromToIndex_8c36e 4 = .ok (.iload_n 0, 1) := by decide +kernel
theorem dJ3_checkFromToIndex_8c36e_5 : decode cJ3_checkFromToIndex_8c36e 5 = .ok (.iload_n 1, 1) := by decide +kernel
theorem dJ3_checkFromToIndex_8c36e_6 : decode cJ3_checkFromToIndex_8c36e 6 = .ok (.if_icmp .gt 8, 3) := by decide +kernel
theorem dJ3_checkFromToIndex_8c36e_9 : decode cJ3_checkFromToIndex_8c36e 9 = .ok (.iload_n 1, 1) := by decide +kernel
theorem dJ3_checkFromToIndex_8c36e_10 : decode cJ3_checkFromToIndex_8c36e 10 = .ok (.iload_n 2, 1) := by decide +kernel
theorem dJ3_checkFromToIndex_8c36e_11 : decode cJ3_checkFromToIndex_8c36e 11 = .ok (.if_icmp .le 11, 3) := by decide +kernel
theorem dJ3_checkFromToIndex_8c36e_14 : decode cJ3_checkFromToIndex_8c36e 14 = .ok (.aload_n 3, 1) := by decide +kernel
theorem dJ3_checkFromToIndex_8c36e_15 : decode cJ3_checkFromToIndex_8c36e 15 = .ok (.iload_n 0, 1) := by decide +kernel
theorem dJ3_checkFromToIndex_8c36e_16 : decode cJ3_checkFromToIndex_8c36e 16 = .ok (.iload_n 1, 1) := by decide +kernel
theorem dJ3_checkFromToIndex_8c36e_17 : decode cJ3_checkFromToIndex_8c36e 17 = .ok (.iload_n 2, 1) := by decide +kernel
theorem dJ3_checkFromToIndex_8c36e_18 : decode cJ3_checkFromToIndex_8c36e 18 = .ok (.invokestatic 99, 3) := by decide +kernel
theorem dJ3_checkFromToIndex_8c36e_21 : decode cJ3_checkFromToIndex_8c36e 21 = .ok (.athrow, 1) := by decide +kernel
theorem dJ3_checkFromToIndex_8c36e_22 : decode cJ3_checkFromToIndex_8c36e 22 = .ok (.iload_n 0, 1) := by decide +kernel
theorem dJ3_checkFromToIndex_8c36e_23 : decode cJ3_checkFromToIndex_8c36e 23 = .ok (.ireturn, 1) := by decide +kernel
theorem dL_law_0 : decode cL_law 0 = .ok (.new 7, 3) := by decide +kernel
theorem dL_law_3 : decode cL_law 3 = .ok (.dup, 1) := by decide +kernel
theorem dL_law_4 : decode cL_law 4 = .ok (.invokespecial 9, 3) := by decide +kernel
theorem dL_law_7 : decode cL_law 7 = .ok (.astore_n 1, 1) := by decide +kernel
theorem dL_law_8 : decode cL_law 8 = .ok (.new 10, 3) := by decide +kernel
theorem dL_law_11 : decode cL_law 11 = .ok (.dup, 1) := by decide +kernel
theorem dL_law_12 : decode cL_law 12 = .ok (.invokespecial 12, 3) := by decide +kernel
theorem dL_law_15 : decode cL_law 15 = .ok (.astore_n 2, 1) := by decide +kernel
theorem dL_law_16 : decode cL_law 16 = .ok (.iconst 0, 1) := by decide +kernel
theorem dL_law_17 : decode cL_law 17 = .ok (.istore_n 3, 1) := by decide +kernel
theorem dL_law_18 : decode cL_law 18 = .ok (.iload_n 3, 1) := by decide +kernel
theorem dL_law_19 : decode cL_law 19 = .ok (.aload_n 0, 1) := by decide +kernel
theorem dL_law_20 : decode cL_law 20 = .ok (.arraylength, 1) := by decide +kernel
theorem dL_law_21 : decode cL_law 21 = .ok (.iconst 5, 1) := by decide +kernel
theorem dL_law_22 : decode cL_law 22 = .ok (.isub, 1) := by decide +kernel
theorem dL_law_23 : decode cL_law 23 = .ok (.if_icmp .gt 917, 3) := by decide +kernel
theorem dL_law_26 : decode cL_law 26 = .ok (.aload_n 0, 1) := by decide +kernel
theorem dL_law_27 : decode cL_law 27 = .ok (.iload_n 3, 1) := by decide +kernel
theorem dL_law_28 : decode cL_law 28 = .ok (.iaload, 1) := by decide +kernel
theorem dL_law_29 : decode cL_law 29 = .ok (.bipush 31, 2) := by decide +kernel
theorem dL_law_31 : decode cL_law 31 = .ok (.iand, 1) := by decide +kernel
theorem dL_law_32 : decode cL_law 32 = .ok (.tableswitch 902 0 27 #[128, 151, 164, 197, 230, 263, 286, 319, 352, 375, 388, 421, 454, 477, 520, 573, 606, 639, 672, 705, 728, 751, 774, 797, 810, 853, 866, 879], 128) := by decide +kernel
theorem dL_law_160 : decode cL_law 160 = .ok (.aload_n 1, 1) := by decide +kernel
theorem dL_law_161 : decode cL_law 161 = .ok (.aload_n 0, 1) := by decide +kernel
theorem dL_law_162 : decode cL_law 162 = .ok (.iload_n 3, 1) := by decide +kernel
theorem dL_law_163 : decode cL_law 163 = .ok (.iconst 1, 1) := by decide +kernel
theorem dL_law_164 : decode cL_law 164 = .ok (.iadd, 1) := by decide +kernel
theorem dL_law_165 : decode cL_law 165 = .ok (.iaload, 1) := by decide +kernel
theorem dL_law_166 : decode cL_law 166 = .ok (.invokevirtual 13, 3) := by decide +kernel
theorem dL_law_169 : decode cL_law 169 = .ok (.aload_n 2, 1) := by decide +kernel
theorem dL_law_170 : decode cL_law 170 = .ok (.aload_n 0, 1) := by decide +kernel
theorem dL_law_171 : decode cL_law 171 = .ok (.iload_n 3, 1) := by decide +kernel
theorem dL_law_172 : decode cL_law 172 = .ok (.iconst 1, 1) := by decide +kernel
theorem dL_law_173 : decode cL_law 173 = .ok (.iadd, 1) := by decide +kernel
theorem dL_law_174 : decode cL_law 174 = .ok (.iaload, 1) := by decide +kernel
theorem dL_law_175 : decode cL_law 175 = .ok (.invokevirtual 17, 3) := by decide +kernel
theorem dL_law_178 : decode cL_law 178 = .ok (.if_icmp .eq 756, 3) := by decide +kernel
theorem dL_law_181 : decode cL_law 181 = .ok (.iconst 0, 1) := by decide +kernel
theorem dL_law_182 : decode cL_law 182 = .ok (.ireturn, 1) := by decide +kernel
theorem dL_law_183 : decode cL_law 183 = .ok (.aload_n 1, 1) := by decide +kernel
theorem dL_law_184 : decode cL_law 184 = .ok (.invokevirtual 18, 3) := by decide +kernel
theorem dL_law_187 : decode cL_law 187 = .ok (.aload_n 2, 1) := by decide +kernel
theorem dL_law_188 : decode cL_law 188 = .ok (.invokevirtual 22, 3) := by decide +kernel
theorem dL_law_191 : decode cL_law 191 = .ok (.if_icmp .eq 743, 3) := by decide +kernel
theorem dL_law_194 : decode cL_law 194 = .ok (.iconst 0, 1) := by decide +kernel
theorem dL_law_195 : decode cL_law 195 = .ok (.ireturn, 1) := by decide +kernel
theorem dL_law_196 : decode cL_law 196 = .ok (.aload_n 1, 1) := by decide +kernel
theorem dL_law_197 : decode cL_law 197 = .ok (.aload_n 0, 1) := by decide +kernel
theorem dL_law_198 : decode cL_law 198 = .ok (.iload_n 3, 1) := by decide +kernel
theorem dL_law_199 : decode cL_law 199 = .ok (.iconst 1, 1) := by decide +kernel
theorem dL_law_200 : decode cL_law 200 = .ok (.iadd, 1) := by decide +kernel
theorem dL_law_201 : decode cL_law 201 = .ok (.iaload, 1) := by decide +kernel
theorem dL_law_202 : decode cL_law 202 = .ok (.aload_n 0, 1) := by decide +kernel
theorem dL_law_203 : decode cL_law 203 = .ok (.iload_n 3, 1) := by decide +kernel
theorem dL_law_204 : decode cL_law 204 = .ok (.iconst 2, 1) := by decide +kernel
theorem dL_law_205 : decode cL_law 205 = .ok (.iadd, 1) := by decide +kernel
theorem dL_law_206 : decode cL_law 206 = .ok (.iaload, 1) := by decide +kernel
theorem dL_law_207 : decode cL_law 207 = .ok (.invokevirtual 23, 3) := by decide +kernel
theorem dL_law_210 : decode cL_law 210 = .ok (.aload_n 2, 1) := by decide +kernel
theorem dL_law_211 : decode cL_law 211 = .ok (.aload_n 0, 1) := by decide +kernel
theorem dL_law_212 : decode cL_law 212 = .ok (.iload_n 3, 1) := by decide +kernel
theorem dL_law_213 : decode cL_law 213 = .ok (.iconst 1, 1) := by decide +kernel
theorem dL_law_214 : decode cL_law 214 = .ok (.iadd, 1) := by decide +kernel
theorem dL_law_215 : decode cL_law 215 = .ok (.iaload, 1) := by decide +kernel
theorem dL_law_216 : decode cL_law 216 = .ok (.aload_n 0, 1) := by decide +kernel
theorem dL_law_217 : decode cL_law 217 = .ok (.iload_n 3, 1) := by decide +kernel
theorem dL_law_218 : decode cL_law 218 = .ok (.iconst 2, 1) := by decide +kernel
theorem dL_law_219 : decode cL_law 219 = .ok (.iadd, 1) := by decide +kernel
theorem dL_law_220 : decode cL_law 220 = .ok (.iaload, 1) := by decide +kernel
theorem dL_law_221 : decode cL_law 221 = .ok (.invokevirtual 27, 3) := by decide +kernel
theorem dL_law_224 : decode cL_law 224 = .ok (.if_icmp .eq 710, 3) := by decide +kernel
theorem dL_law_227 : decode cL_law 227 = .ok (.iconst 0, 1) := by decide +kernel
theorem dL_law_228 : decode cL_law 228 = .ok (.ireturn, 1) := by decide +kernel
theorem dL_law_229 : decode cL_law 229 = .ok (.aload_n 1, 1) := by decide +kernel
theorem dL_law_230 : decode cL_law 230 = .ok (.aload_n 0, 1) := by decide +kernel
theorem dL_law_231 : decode cL_law 231 = .ok (.iload_n 3, 1) := by decide +kernel
theorem dL_law_232 : decode cL_law 232 = .ok (.iconst 1, 1) := by decide +kernel
theorem dL_law_233 : decode cL_law 233 = .ok (.iadd, 1) := by decide +kernel
theorem dL_law_234 : decode cL_law 234 = .ok (.iaload, 1) := by decide +kernel
theorem dL_law_235 : decode cL_law 235 = .ok (.aload_n 0, 1) := by decide +kernel
theorem dL_law_236 : decode cL_law 236 = .ok (.iload_n 3, 1) := by decide +kernel
theorem dL_law_237 : decode cL_law 237 = .ok (.iconst 2, 1) := by decide +kernel
theorem dL_law_238 : decode cL_law 238 = .ok (.iadd, 1) := by decide +kernel
theorem dL_law_239 : decode cL_law 239 = .ok (.iaload, 1) := by decide +kernel
theorem dL_law_240 : decode cL_law 240 = .ok (.invokevirtual 28, 3) := by decide +kernel
theorem dL_law_243 : decode cL_law 243 = .ok (.aload_n 2, 1) := by decide +kernel
theorem dL_law_244 : decode cL_law 244 = .ok (.aload_n 0, 1) := by decide +kernel
theorem dL_law_245 : decode cL_law 245 = .ok (.iload_n 3, 1) := by decide +kernel
theorem dL_law_246 : decode cL_law 246 = .ok (.iconst 1, 1) := by decide +kernel
theorem dL_law_247 : decode cL_law 247 = .ok (.iadd, 1) := by decide +kernel
theorem dL_law_248 : decode cL_law 248 = .ok (.iaload, 1) := by decide +kernel
theorem dL_law_249 : decode cL_law 249 = .ok (.aload_n 0, 1) := by decide +kernel
theorem dL_law_250 : decode cL_law 250 = .ok (.iload_n 3, 1) := by decide +kernel
theorem dL_law_251 : decode cL_law 251 = .ok (.iconst 2, 1) := by decide +kernel
theorem dL_law_252 : decode cL_law 252 = .ok (.iadd, 1) := by decide +kernel
theorem dL_law_253 : decode cL_law 253 = .ok (.iaload, 1) := by decide +kernel
theorem dL_law_254 : decode cL_law 254 = .ok (.invokevirtual 31, 3) := by decide +kernel
theorem dL_law_257 : decode cL_law 257 = .ok (.if_icmp .eq 677, 3) := by decide +kernel
theorem dL_law_260 : decode cL_law 260 = .ok (.iconst 0, 1) := by decide +kernel
theorem dL_law_261 : decode cL_law 261 = .ok (.ireturn, 1) := by decide +kernel
theorem dL_law_262 : decode cL_law 262 = .ok (.aload_n 1, 1) := by decide +kernel
theorem dL_law_263 : decode cL_law 263 = .ok (.aload_n 0, 1) := by decide +kernel
theorem dL_law_264 : decode cL_law 264 = .ok (.iload_n 3, 1) := by decide +kernel
theorem dL_law_265 : decode cL_law 265 = .ok (.iconst 1, 1) := by decide +kernel
theorem dL_law_266 : decode cL_law 266 = .ok (.iadd, 1) := by decide +kernel
theorem dL_law_267 : decode cL_law 267 = .ok (.iaload, 1) := by decide +kernel
theorem dL_law_268 : decode cL_law 268 = .ok (.aload_n 0, 1) := by decide +kernel
theorem dL_law_269 : decode cL_law 269 = .ok (.iload_n 3, 1) := by decide +kernel
theorem dL_law_270 : decode cL_law 270 = .ok (.iconst 2, 1) := by decide +kernel
theorem dL_law_271 : decode cL_law 271 = .ok (.iadd, 1) := by decide +kernel
theorem dL_law_272 : decode cL_law 272 = .ok (.iaload, 1) := by decide +kernel
theorem dL_law_273 : decode cL_law 273 = .ok (.invokevirtual 32, 3) := by decide +kernel
theorem dL_law_276 : decode cL_law 276 = .ok (.aload_n 2, 1) := by decide +kernel
theorem dL_law_277 : decode cL_law 277 = .ok (.aload_n 0, 1) := by decide +kernel
theorem dL_law_278 : decode cL_law 278 = .ok (.iload_n 3, 1) := by decide +kernel
theorem dL_law_279 : decode cL_law 279 = .ok (.iconst 1, 1) := by decide +kernel
theorem dL_law_280 : decode cL_law 280 = .ok (.iadd, 1) := by decide +kernel
theorem dL_law_281 : decode cL_law 281 = .ok (.iaload, 1) := by decide +kernel
theorem dL_law_282 : decode cL_law 282 = .ok (.aload_n 0, 1) := by decide +kernel
theorem dL_law_283 : decode cL_law 283 = .ok (.iload_n 3, 1) := by decide +kernel
theorem dL_law_284 : decode cL_law 284 = .ok (.iconst 2, 1) := by decide +kernel
theorem dL_law_285 : decode cL_law 285 = .ok (.iadd, 1) := by decide +kernel
theorem dL_law_286 : decode cL_law 286 = .ok (.iaload, 1) := by decide +kernel
theorem dL_law_287 : decode cL_law 287 = .ok (.invokevirtual 35, 3) := by decide +kernel
theorem dL_law_290 : decode cL_law 290 = .ok (.if_icmp .eq 644, 3) := by decide +kernel
theorem dL_law_293 : decode cL_law 293 = .ok (.iconst 0, 1) := by decide +kernel
theorem dL_law_294 : decode cL_law 294 = .ok (.ireturn, 1) := by decide +kernel
theorem dL_law_295 : decode cL_law 295 = .ok (.aload_n 1, 1) := by decide +kernel
theorem dL_law_296 : decode cL_law 296 = .ok (.aload_n 0, 1) := by decide +kernel
theorem dL_law_297 : decode cL_law 297 = .ok (.iload_n 3, 1) := by decide +kernel
theorem dL_law_298 : decode cL_law 298 = .ok (.iconst 1, 1) := by decide +kernel
theorem dL_law_299 : decode cL_law 299 = .ok (.iadd, 1) := by decide +kernel
theorem dL_law_300 : decode cL_law 300 = .ok (.iaload, 1) := by decide +kernel
theorem dL_law_301 : decode cL_law 301 = .ok (.invokevirtual 36, 3) := by decide +kernel
theorem dL_law_304 : decode cL_law 304 = .ok (.aload_n 2, 1) := by decide +kernel
theorem dL_law_305 : decode cL_law 305 = .ok (.aload_n 0, 1) := by decide +kernel
theorem dL_law_306 : decode cL_law 306 = .ok (.iload_n 3, 1) := by decide +kernel
theorem dL_law_307 : decode cL_law 307 = .ok (.iconst 1, 1) := by decide +kernel
theorem dL_law_308 : decode cL_law 308 = .ok (.iadd, 1) := by decide +kernel
theorem dL_law_309 : decode cL_law 309 = .ok (.iaload, 1) := by decide +kernel
theorem dL_law_310 : decode cL_law 310 = .ok (.invokevirtual 39, 3) := by decide +kernel
theorem dL_law_313 : decode cL_law 313 = .ok (.if_icmp .eq 621, 3) := by decide +kernel
theorem dL_law_316 : decode cL_law 316 = .ok (.iconst 0, 1) := by decide +kernel
theorem dL_law_317 : decode cL_law 317 = .ok (.ireturn, 1) := by decide +kernel
theorem dL_law_318 : decode cL_law 318 = .ok (.aload_n 1, 1) := by decide +kernel
theorem dL_law_319 : decode cL_law 319 = .ok (.aload_n 0, 1) := by decide +kernel
theorem dL_law_320 : decode cL_law 320 = .ok (.iload_n 3, 1) := by decide +kernel
theorem dL_law_321 : decode cL_law 321 = .ok (.iconst 1, 1) := by decide +kernel
theorem dL_law_322 : decode cL_law 322 = .ok (.iadd, 1) := by decide +kernel
theorem dL_law_323 : decode cL_law 323 = .ok (.iaload, 1) := by decide +kernel
theorem dL_law_324 : decode cL_law 324 = .ok (.aload_n 0, 1) := by decide +kernel
theorem dL_law_325 : decode cL_law 325 = .ok (.iload_n 3, 1) := by decide +kernel
theorem dL_law_326 : decode cL_law 326 = .ok (.iconst 2, 1) := by decide +kernel
theorem dL_law_327 : decode cL_law 327 = .ok (.iadd, 1) := by decide +kernel
theorem dL_law_328 : decode cL_law 328 = .ok (.iaload, 1) := by decide +kernel
theorem dL_law_329 : decode cL_law 329 = .ok (.invokevirtual 40, 3) := by decide +kernel
theorem dL_law_332 : decode cL_law 332 = .ok (.aload_n 2, 1) := by decide +kernel
theorem dL_law_333 : decode cL_law 333 = .ok (.aload_n 0, 1) := by decide +kernel
theorem dL_law_334 : decode cL_law 334 = .ok (.iload_n 3, 1) := by decide +kernel
theorem dL_law_335 : decode cL_law 335 = .ok (.iconst 1, 1) := by decide +kernel
theorem dL_law_336 : decode cL_law 336 = .ok (.iadd, 1) := by decide +kernel
theorem dL_law_337 : decode cL_law 337 = .ok (.iaload, 1) := by decide +kernel
theorem dL_law_338 : decode cL_law 338 = .ok (.aload_n 0, 1) := by decide +kernel
theorem dL_law_339 : decode cL_law 339 = .ok (.iload_n 3, 1) := by decide +kernel
theorem dL_law_340 : decode cL_law 340 = .ok (.iconst 2, 1) := by decide +kernel
theorem dL_law_341 : decode cL_law 341 = .ok (.iadd, 1) := by decide +kernel
theorem dL_law_342 : decode cL_law 342 = .ok (.iaload, 1) := by decide +kernel
theorem dL_law_343 : decode cL_law 343 = .ok (.invokevirtual 43, 3) := by decide +kernel
theorem dL_law_346 : decode cL_law 346 = .ok (.if_icmp .eq 588, 3) := by decide +kernel
theorem dL_law_349 : decode cL_law 349 = .ok (.iconst 0, 1) := by decide +kernel
theorem dL_law_350 : decode cL_law 350 = .ok (.ireturn, 1) := by decide +kernel
theorem dL_law_351 : decode cL_law 351 = .ok (.aload_n 1, 1) := by decide +kernel
theorem dL_law_352 : decode cL_law 352 = .ok (.aload_n 0, 1) := by decide +kernel
theorem dL_law_353 : decode cL_law 353 = .ok (.iload_n 3, 1) := by decide +kernel
theorem dL_law_354 : decode cL_law 354 = .ok (.iconst 1, 1) := by decide +kernel
theorem dL_law_355 : decode cL_law 355 = .ok (.iadd, 1) := by decide +kernel
theorem dL_law_356 : decode cL_law 356 = .ok (.iaload, 1) := by decide +kernel
theorem dL_law_357 : decode cL_law 357 = .ok (.aload_n 0, 1) := by decide +kernel
theorem dL_law_358 : decode cL_law 358 = .ok (.iload_n 3, 1) := by decide +kernel
theorem dL_law_359 : decode cL_law 359 = .ok (.iconst 2, 1) := by decide +kernel
theorem dL_law_360 : decode cL_law 360 = .ok (.iadd, 1) := by decide +kernel
theorem dL_law_361 : decode cL_law 361 = .ok (.iaload, 1) := by decide +kernel
theorem dL_law_362 : decode cL_law 362 = .ok (.invokevirtual 44, 3) := by decide +kernel
theorem dL_law_365 : decode cL_law 365 = .ok (.aload_n 2, 1) := by decide +kernel
theorem dL_law_366 : decode cL_law 366 = .ok (.aload_n 0, 1) := by decide +kernel
theorem dL_law_367 : decode cL_law 367 = .ok (.iload_n 3, 1) := by decide +kernel
theorem dL_law_368 : decode cL_law 368 = .ok (.iconst 1, 1) := by decide +kernel
theorem dL_law_369 : decode cL_law 369 = .ok (.iadd, 1) := by decide +kernel
theorem dL_law_370 : decode cL_law 370 = .ok (.iaload, 1) := by decide +kernel
theorem dL_law_371 : decode cL_law 371 = .ok (.aload_n 0, 1) := by decide +kernel
theorem dL_law_372 : decode cL_law 372 = .ok (.iload_n 3, 1) := by decide +kernel
theorem dL_law_373 : decode cL_law 373 = .ok (.iconst 2, 1) := by decide +kernel
theorem dL_law_374 : decode cL_law 374 = .ok (.iadd, 1) := by decide +kernel
theorem dL_law_375 : decode cL_law 375 = .ok (.iaload, 1) := by decide +kernel
theorem dL_law_376 : decode cL_law 376 = .ok (.invokevirtual 47, 3) := by decide +kernel
theorem dL_law_379 : decode cL_law 379 = .ok (.if_icmp .eq 555, 3) := by decide +kernel
theorem dL_law_382 : decode cL_law 382 = .ok (.iconst 0, 1) := by decide +kernel
theorem dL_law_383 : decode cL_law 383 = .ok (.ireturn, 1) := by decide +kernel
theorem dL_law_384 : decode cL_law 384 = .ok (.aload_n 1, 1) := by decide +kernel
theorem dL_law_385 : decode cL_law 385 = .ok (.aload_n 0, 1) := by decide +kernel
theorem dL_law_386 : decode cL_law 386 = .ok (.iload_n 3, 1) := by decide +kernel
theorem dL_law_387 : decode cL_law 387 = .ok (.iconst 1, 1) := by decide +kernel
theorem dL_law_388 : decode cL_law 388 = .ok (.iadd, 1) := by decide +kernel
theorem dL_law_389 : decode cL_law 389 = .ok (.iaload, 1) := by decide +kernel
theorem dL_law_390 : decode cL_law 390 = .ok (.invokevirtual 48, 3) := by decide +kernel
theorem dL_law_393 : decode cL_law 393 = .ok (.aload_n 2, 1) := by decide +kernel
theorem dL_law_394 : decode cL_law 394 = .ok (.aload_n 0, 1) := by decide +kernel
theorem dL_law_395 : decode cL_law 395 = .ok (.iload_n 3, 1) := by decide +kernel
theorem dL_law_396 : decode cL_law 396 = .ok (.iconst 1, 1) := by decide +kernel
theorem dL_law_397 : decode cL_law 397 = .ok (.iadd, 1) := by decide +kernel
theorem dL_law_398 : decode cL_law 398 = .ok (.iaload, 1) := by decide +kernel
theorem dL_law_399 : decode cL_law 399 = .ok (.invokevirtual 51, 3) := by decide +kernel
theorem dL_law_402 : decode cL_law 402 = .ok (.if_icmp .eq 532, 3) := by decide +kernel
theorem dL_law_405 : decode cL_law 405 = .ok (.iconst 0, 1) := by decide +kernel
theorem dL_law_406 : decode cL_law 406 = .ok (.ireturn, 1) := by decide +kernel
theorem dL_law_407 : decode cL_law 407 = .ok (.aload_n 1, 1) := by decide +kernel
theorem dL_law_408 : decode cL_law 408 = .ok (.invokevirtual 52, 3) := by decide +kernel
theorem dL_law_411 : decode cL_law 411 = .ok (.aload_n 2, 1) := by decide +kernel
theorem dL_law_412 : decode cL_law 412 = .ok (.invokevirtual 55, 3) := by decide +kernel
theorem dL_law_415 : decode cL_law 415 = .ok (.if_icmp .eq 519, 3) := by decide +kernel
theorem dL_law_418 : decode cL_law 418 = .ok (.iconst 0, 1) := by decide +kernel
theorem dL_law_419 : decode cL_law 419 = .ok (.ireturn, 1) := by decide +kernel
theorem dL_law_420 : decode cL_law 420 = .ok (.aload_n 1, 1) := by decide +kernel
theorem dL_law_421 : decode cL_law 421 = .ok (.aload_n 0, 1) := by decide +kernel
theorem dL_law_422 : decode cL_law 422 = .ok (.iload_n 3, 1) := by decide +kernel
theorem dL_law_423 : decode cL_law 423 = .ok (.iconst 1, 1) := by decide +kernel
theorem dL_law_424 : decode cL_law 424 = .ok (.iadd, 1) := by decide +kernel
theorem dL_law_425 : decode cL_law 425 = .ok (.iaload, 1) := by decide +kernel
theorem dL_law_426 : decode cL_law 426 = .ok (.aload_n 0, 1) := by decide +kernel
theorem dL_law_427 : decode cL_law 427 = .ok (.iload_n 3, 1) := by decide +kernel
theorem dL_law_428 : decode cL_law 428 = .ok (.iconst 2, 1) := by decide +kernel
theorem dL_law_429 : decode cL_law 429 = .ok (.iadd, 1) := by decide +kernel
theorem dL_law_430 : decode cL_law 430 = .ok (.iaload, 1) := by decide +kernel
theorem dL_law_431 : decode cL_law 431 = .ok (.invokevirtual 56, 3) := by decide +kernel
theorem dL_law_434 : decode cL_law 434 = .ok (.aload_n 2, 1) := by decide +kernel
theorem dL_law_435 : decode cL_law 435 = .ok (.aload_n 0, 1) := by decide +kernel
theorem dL_law_436 : decode cL_law 436 = .ok (.iload_n 3, 1) := by decide +kernel
theorem dL_law_437 : decode cL_law 437 = .ok (.iconst 1, 1) := by decide +kernel
theorem dL_law_438 : decode cL_law 438 = .ok (.iadd, 1) := by decide +kernel
theorem dL_law_439 : decode cL_law 439 = .ok (.iaload, 1) := by decide +kernel
theorem dL_law_440 : decode cL_law 440 = .ok (.aload_n 0, 1) := by decide +kernel
theorem dL_law_441 : decode cL_law 441 = .ok (.iload_n 3, 1) := by decide +kernel
theorem dL_law_442 : decode cL_law 442 = .ok (.iconst 2, 1) := by decide +kernel
theorem dL_law_443 : decode cL_law 443 = .ok (.iadd, 1) := by decide +kernel
theorem dL_law_444 : decode cL_law 444 = .ok (.iaload, 1) := by decide +kernel
theorem dL_law_445 : decode cL_law 445 = .ok (.invokevirtual 59, 3) := by decide +kernel
theorem dL_law_448 : decode cL_law 448 = .ok (.if_icmp .eq 486, 3) := by decide +kernel
theorem dL_law_451 : decode cL_law 451 = .ok (.iconst 0, 1) := by decide +kernel
theorem dL_law_452 : decode cL_law 452 = .ok (.ireturn, 1) := by decide +kernel
theorem dL_law_453 : decode cL_law 453 = .ok (.aload_n 1, 1) := by decide +kernel
theorem dL_law_454 : decode cL_law 454 = .ok (.aload_n 0, 1) := by decide +kernel
theorem dL_law_455 : decode cL_law 455 = .ok (.iload_n 3, 1) := by decide +kernel
theorem dL_law_456 : decode cL_law 456 = .ok (.iconst 1, 1) := by decide +kernel
theorem dL_law_457 : decode cL_law 457 = .ok (.iadd, 1) := by decide +kernel
theorem dL_law_458 : decode cL_law 458 = .ok (.iaload, 1) := by decide +kernel
theorem dL_law_459 : decode cL_law 459 = .ok (.aload_n 0, 1) := by decide +kernel
theorem dL_law_460 : decode cL_law 460 = .ok (.iload_n 3, 1) := by decide +kernel
theorem dL_law_461 : decode cL_law 461 = .ok (.iconst 2, 1) := by decide +kernel
theorem dL_law_462 : decode cL_law 462 = .ok (.iadd, 1) := by decide +kernel
theorem dL_law_463 : decode cL_law 463 = .ok (.iaload, 1) := by decide +kernel
theorem dL_law_464 : decode cL_law 464 = .ok (.invokevirtual 60, 3) := by decide +kernel
theorem dL_law_467 : decode cL_law 467 = .ok (.aload_n 2, 1) := by decide +kernel
theorem dL_law_468 : decode cL_law 468 = .ok (.aload_n 0, 1) := by decide +kernel
theorem dL_law_469 : decode cL_law 469 = .ok (.iload_n 3, 1) := by decide +kernel
theorem dL_law_470 : decode cL_law 470 = .ok (.iconst 1, 1) := by decide +kernel
theorem dL_law_471 : decode cL_law 471 = .ok (.iadd, 1) := by decide +kernel
theorem dL_law_472 : decode cL_law 472 = .ok (.iaload, 1) := by decide +kernel
theorem dL_law_473 : decode cL_law 473 = .ok (.aload_n 0, 1) := by decide +kernel
theorem dL_law_474 : decode cL_law 474 = .ok (.iload_n 3, 1) := by decide +kernel
theorem dL_law_475 : decode cL_law 475 = .ok (.iconst 2, 1) := by decide +kernel
theorem dL_law_476 : decode cL_law 476 = .ok (.iadd, 1) := by decide +kernel
theorem dL_law_477 : decode cL_law 477 = .ok (.iaload, 1) := by decide +kernel
theorem dL_law_478 : decode cL_law 478 = .ok (.invokevirtual 63, 3) := by decide +kernel
theorem dL_law_481 : decode cL_law 481 = .ok (.if_icmp .eq 453, 3) := by decide +kernel
theorem dL_law_484 : decode cL_law 484 = .ok (.iconst 0, 1) := by decide +kernel
theorem dL_law_485 : decode cL_law 485 = .ok (.ireturn, 1) := by decide +kernel
theorem dL_law_486 : decode cL_law 486 = .ok (.aload_n 1, 1) := by decide +kernel
theorem dL_law_487 : decode cL_law 487 = .ok (.aload_n 0, 1) := by decide +kernel
theorem dL_law_488 : decode cL_law 488 = .ok (.iload_n 3, 1) := by decide +kernel
theorem dL_law_489 : decode cL_law 489 = .ok (.iconst 1, 1) := by decide +kernel
theorem dL_law_490 : decode cL_law 490 = .ok (.iadd, 1) := by decide +kernel
theorem dL_law_491 : decode cL_law 491 = .ok (.iaload, 1) := by decide +kernel
theorem dL_law_492 : decode cL_law 492 = .ok (.invokevirtual 64, 3) := by decide +kernel
theorem dL_law_495 : decode cL_law 495 = .ok (.aload_n 2, 1) := by decide +kernel
theorem dL_law_496 : decode cL_law 496 = .ok (.aload_n 0, 1) := by decide +kernel
theorem dL_law_497 : decode cL_law 497 = .ok (.iload_n 3, 1) := by decide +kernel
theorem dL_law_498 : decode cL_law 498 = .ok (.iconst 1, 1) := by decide +kernel
theorem dL_law_499 : decode cL_law 499 = .ok (.iadd, 1) := by decide +kernel
theorem dL_law_500 : decode cL_law 500 = .ok (.iaload, 1) := by decide +kernel
theorem dL_law_501 : decode cL_law 501 = .ok (.invokevirtual 67, 3) := by decide +kernel
theorem dL_law_504 : decode cL_law 504 = .ok (.if_icmp .eq 430, 3) := by decide +kernel
theorem dL_law_507 : decode cL_law 507 = .ok (.iconst 0, 1) := by decide +kernel
theorem dL_law_508 : decode cL_law 508 = .ok (.ireturn, 1) := by decide +kernel
theorem dL_law_509 : decode cL_law 509 = .ok (.aload_n 1, 1) := by decide +kernel
theorem dL_law_510 : decode cL_law 510 = .ok (.aload_n 0, 1) := by decide +kernel
theorem dL_law_511 : decode cL_law 511 = .ok (.iload_n 3, 1) := by decide +kernel
theorem dL_law_512 : decode cL_law 512 = .ok (.iconst 1, 1) := by decide +kernel
theorem dL_law_513 : decode cL_law 513 = .ok (.iadd, 1) := by decide +kernel
theorem dL_law_514 : decode cL_law 514 = .ok (.iaload, 1) := by decide +kernel
theorem dL_law_515 : decode cL_law 515 = .ok (.aload_n 0, 1) := by decide +kernel
theorem dL_law_516 : decode cL_law 516 = .ok (.iload_n 3, 1) := by decide +kernel
theorem dL_law_517 : decode cL_law 517 = .ok (.iconst 2, 1) := by decide +kernel
theorem dL_law_518 : decode cL_law 518 = .ok (.iadd, 1) := by decide +kernel
theorem dL_law_519 : decode cL_law 519 = .ok (.iaload, 1) := by decide +kernel
theorem dL_law_520 : decode cL_law 520 = .ok (.aload_n 0, 1) := by decide +kernel
theorem dL_law_521 : decode cL_law 521 = .ok (.iload_n 3, 1) := by decide +kernel
theorem dL_law_522 : decode cL_law 522 = .ok (.iconst 3, 1) := by decide +kernel
theorem dL_law_523 : decode cL_law 523 = .ok (.iadd, 1) := by decide +kernel
theorem dL_law_524 : decode cL_law 524 = .ok (.iaload, 1) := by decide +kernel
theorem dL_law_525 : decode cL_law 525 = .ok (.invokevirtual 68, 3) := by decide +kernel
theorem dL_law_528 : decode cL_law 528 = .ok (.aload_n 2, 1) := by decide +kernel
theorem dL_law_529 : decode cL_law 529 = .ok (.aload_n 0, 1) := by decide +kernel
theorem dL_law_530 : decode cL_law 530 = .ok (.iload_n 3, 1) := by decide +kernel
theorem dL_law_531 : decode cL_law 531 = .ok (.iconst 1, 1) := by decide +kernel
theorem dL_law_532 : decode cL_law 532 = .ok (.iadd, 1) := by decide +kernel
theorem dL_law_533 : decode cL_law 533 = .ok (.iaload, 1) := by decide +kernel
theorem dL_law_534 : decode cL_law 534 = .ok (.aload_n 0, 1) := by decide +kernel
theorem dL_law_535 : decode cL_law 535 = .ok (.iload_n 3, 1) := by decide +kernel
theorem dL_law_536 : decode cL_law 536 = .ok (.iconst 2, 1) := by decide +kernel
theorem dL_law_537 : decode cL_law 537 = .ok (.iadd, 1) := by decide +kernel
theorem dL_law_538 : decode cL_law 538 = .ok (.iaload, 1) := by decide +kernel
theorem dL_law_539 : decode cL_law 539 = .ok (.aload_n 0, 1) := by decide +kernel
theorem dL_law_540 : decode cL_law 540 = .ok (.iload_n 3, 1) := by decide +kernel
theorem dL_law_541 : decode cL_law 541 = .ok (.iconst 3, 1) := by decide +kernel
theorem dL_law_542 : decode cL_law 542 = .ok (.iadd, 1) := by decide +kernel
theorem dL_law_543 : decode cL_law 543 = .ok (.iaload, 1) := by decide +kernel
theorem dL_law_544 : decode cL_law 544 = .ok (.invokevirtual 72, 3) := by decide +kernel
theorem dL_law_547 : decode cL_law 547 = .ok (.if_icmp .eq 387, 3) := by decide +kernel
theorem dL_law_550 : decode cL_law 550 = .ok (.iconst 0, 1) := by decide +kernel
theorem dL_law_551 : decode cL_law 551 = .ok (.ireturn, 1) := by decide +kernel
theorem dL_law_552 : decode cL_law 552 = .ok (.aload_n 1, 1) := by decide +kernel
theorem dL_law_553 : decode cL_law 553 = .ok (.aload_n 0, 1) := by decide +kernel
theorem dL_law_554 : decode cL_law 554 = .ok (.iload_n 3, 1) := by decide +kernel
theorem dL_law_555 : decode cL_law 555 = .ok (.iconst 1, 1) := by decide +kernel
theorem dL_law_556 : decode cL_law 556 = .ok (.iadd, 1) := by decide +kernel
theorem dL_law_557 : decode cL_law 557 = .ok (.iaload, 1) := by decide +kernel
theorem dL_law_558 : decode cL_law 558 = .ok (.aload_n 0, 1) := by decide +kernel
theorem dL_law_559 : decode cL_law 559 = .ok (.iload_n 3, 1) := by decide +kernel
theorem dL_law_560 : decode cL_law 560 = .ok (.iconst 2, 1) := by decide +kernel
theorem dL_law_561 : decode cL_law 561 = .ok (.iadd, 1) := by decide +kernel
theorem dL_law_562 : decode cL_law 562 = .ok (.iaload, 1) := by decide +kernel
theorem dL_law_563 : decode cL_law 563 = .ok (.aload_n 0, 1) := by decide +kernel
theorem dL_law_564 : decode cL_law 564 = .ok (.iload_n 3, 1) := by decide +kernel
theorem dL_law_565 : decode cL_law 565 = .ok (.iconst 3, 1) := by decide +kernel
theorem dL_law_566 : decode cL_law 566 = .ok (.iadd, 1) := by decide +kernel
theorem dL_law_567 : decode cL_law 567 = .ok (.iaload, 1) := by decide +kernel
theorem dL_law_568 : decode cL_law 568 = .ok (.aload_n 0, 1) := by decide +kernel
theorem dL_law_569 : decode cL_law 569 = .ok (.iload_n 3, 1) := by decide +kernel
theorem dL_law_570 : decode cL_law 570 = .ok (.iconst 4, 1) := by decide +kernel
theorem dL_law_571 : decode cL_law 571 = .ok (.iadd, 1) := by decide +kernel
theorem dL_law_572 : decode cL_law 572 = .ok (.iaload, 1) := by decide +kernel
theorem dL_law_573 : decode cL_law 573 = .ok (.invokevirtual 73, 3) := by decide +kernel
theorem dL_law_576 : decode cL_law 576 = .ok (.aload_n 2, 1) := by decide +kernel
theorem dL_law_577 : decode cL_law 577 = .ok (.aload_n 0, 1) := by decide +kernel
theorem dL_law_578 : decode cL_law 578 = .ok (.iload_n 3, 1) := by decide +kernel
theorem dL_law_579 : decode cL_law 579 = .ok (.iconst 1, 1) := by decide +kernel
theorem dL_law_580 : decode cL_law 580 = .ok (.iadd, 1) := by decide +kernel
theorem dL_law_581 : decode cL_law 581 = .ok (.iaload, 1) := by decide +kernel
theorem dL_law_582 : decode cL_law 582 = .ok (.aload_n 0, 1) := by decide +kernel
theorem dL_law_583 : decode cL_law 583 = .ok (.iload_n 3, 1) := by decide +kernel
theorem dL_law_584 : decode cL_law 584 = .ok (.iconst 2, 1) := by decide +kernel
theorem dL_law_585 : decode cL_law 585 = .ok (.iadd, 1) := by decide +kernel
theorem dL_law_586 : decode cL_law 586 = .ok (.iaload, 1) := by decide +kernel
theorem dL_law_587 : decode cL_law 587 = .ok (.aload_n 0, 1) := by decide +kernel
theorem dL_law_588 : decode cL_law 588 = .ok (.iload_n 3, 1) := by decide +kernel
theorem dL_law_589 : decode cL_law 589 = .ok (.iconst 3, 1) := by decide +kernel
theorem dL_law_590 : decode cL_law 590 = .ok (.iadd, 1) := by decide +kernel
theorem dL_law_591 : decode cL_law 591 = .ok (.iaload, 1) := by decide +kernel
theorem dL_law_592 : decode cL_law 592 = .ok (.aload_n 0, 1) := by decide +kernel
theorem dL_law_593 : decode cL_law 593 = .ok (.iload_n 3, 1) := by decide +kernel
theorem dL_law_594 : decode cL_law 594 = .ok (.iconst 4, 1) := by decide +kernel
theorem dL_law_595 : decode cL_law 595 = .ok (.iadd, 1) := by decide +kernel
theorem dL_law_596 : decode cL_law 596 = .ok (.iaload, 1) := by decide +kernel
theorem dL_law_597 : decode cL_law 597 = .ok (.invokevirtual 77, 3) := by decide +kernel
theorem dL_law_600 : decode cL_law 600 = .ok (.if_icmp .eq 334, 3) := by decide +kernel
theorem dL_law_603 : decode cL_law 603 = .ok (.iconst 0, 1) := by decide +kernel
theorem dL_law_604 : decode cL_law 604 = .ok (.ireturn, 1) := by decide +kernel
theorem dL_law_605 : decode cL_law 605 = .ok (.aload_n 1, 1) := by decide +kernel
theorem dL_law_606 : decode cL_law 606 = .ok (.aload_n 0, 1) := by decide +kernel
theorem dL_law_607 : decode cL_law 607 = .ok (.iload_n 3, 1) := by decide +kernel
theorem dL_law_608 : decode cL_law 608 = .ok (.iconst 1, 1) := by decide +kernel
theorem dL_law_609 : decode cL_law 609 = .ok (.iadd, 1) := by decide +kernel
theorem dL_law_610 : decode cL_law 610 = .ok (.iaload, 1) := by decide +kernel
theorem dL_law_611 : decode cL_law 611 = .ok (.aload_n 0, 1) := by decide +kernel
theorem dL_law_612 : decode cL_law 612 = .ok (.iload_n 3, 1) := by decide +kernel
theorem dL_law_613 : decode cL_law 613 = .ok (.iconst 2, 1) := by decide +kernel
theorem dL_law_614 : decode cL_law 614 = .ok (.iadd, 1) := by decide +kernel
theorem dL_law_615 : decode cL_law 615 = .ok (.iaload, 1) := by decide +kernel
theorem dL_law_616 : decode cL_law 616 = .ok (.invokevirtual 78, 3) := by decide +kernel
theorem dL_law_619 : decode cL_law 619 = .ok (.aload_n 2, 1) := by decide +kernel
theorem dL_law_620 : decode cL_law 620 = .ok (.aload_n 0, 1) := by decide +kernel
theorem dL_law_621 : decode cL_law 621 = .ok (.iload_n 3, 1) := by decide +kernel
theorem dL_law_622 : decode cL_law 622 = .ok (.iconst 1, 1) := by decide +kernel
theorem dL_law_623 : decode cL_law 623 = .ok (.iadd, 1) := by decide +kernel
theorem dL_law_624 : decode cL_law 624 = .ok (.iaload, 1) := by decide +kernel
theorem dL_law_625 : decode cL_law 625 = .ok (.aload_n 0, 1) := by decide +kernel
theorem dL_law_626 : decode cL_law 626 = .ok (.iload_n 3, 1) := by decide +kernel
theorem dL_law_627 : decode cL_law 627 = .ok (.iconst 2, 1) := by decide +kernel
theorem dL_law_628 : decode cL_law 628 = .ok (.iadd, 1) := by decide +kernel
theorem dL_law_629 : decode cL_law 629 = .ok (.iaload, 1) := by decide +kernel
theorem dL_law_630 : decode cL_law 630 = .ok (.invokevirtual 81, 3) := by decide +kernel
theorem dL_law_633 : decode cL_law 633 = .ok (.if_icmp .eq 301, 3) := by decide +kernel
theorem dL_law_636 : decode cL_law 636 = .ok (.iconst 0, 1) := by decide +kernel
theorem dL_law_637 : decode cL_law 637 = .ok (.ireturn, 1) := by decide +kernel
theorem dL_law_638 : decode cL_law 638 = .ok (.aload_n 1, 1) := by decide +kernel
theorem dL_law_639 : decode cL_law 639 = .ok (.aload_n 0, 1) := by decide +kernel
theorem dL_law_640 : decode cL_law 640 = .ok (.iload_n 3, 1) := by decide +kernel
theorem dL_law_641 : decode cL_law 641 = .ok (.iconst 1, 1) := by decide +kernel
theorem dL_law_642 : decode cL_law 642 = .ok (.iadd, 1) := by decide +kernel
theorem dL_law_643 : decode cL_law 643 = .ok (.iaload, 1) := by decide +kernel
theorem dL_law_644 : decode cL_law 644 = .ok (.aload_n 0, 1) := by decide +kernel
theorem dL_law_645 : decode cL_law 645 = .ok (.iload_n 3, 1) := by decide +kernel
theorem dL_law_646 : decode cL_law 646 = .ok (.iconst 2, 1) := by decide +kernel
theorem dL_law_647 : decode cL_law 647 = .ok (.iadd, 1) := by decide +kernel
theorem dL_law_648 : decode cL_law 648 = .ok (.iaload, 1) := by decide +kernel
theorem dL_law_649 : decode cL_law 649 = .ok (.invokevirtual 82, 3) := by decide +kernel
theorem dL_law_652 : decode cL_law 652 = .ok (.aload_n 2, 1) := by decide +kernel
theorem dL_law_653 : decode cL_law 653 = .ok (.aload_n 0, 1) := by decide +kernel
theorem dL_law_654 : decode cL_law 654 = .ok (.iload_n 3, 1) := by decide +kernel
theorem dL_law_655 : decode cL_law 655 = .ok (.iconst 1, 1) := by decide +kernel
theorem dL_law_656 : decode cL_law 656 = .ok (.iadd, 1) := by decide +kernel
theorem dL_law_657 : decode cL_law 657 = .ok (.iaload, 1) := by decide +kernel
theorem dL_law_658 : decode cL_law 658 = .ok (.aload_n 0, 1) := by decide +kernel
theorem dL_law_659 : decode cL_law 659 = .ok (.iload_n 3, 1) := by decide +kernel
theorem dL_law_660 : decode cL_law 660 = .ok (.iconst 2, 1) := by decide +kernel
theorem dL_law_661 : decode cL_law 661 = .ok (.iadd, 1) := by decide +kernel
theorem dL_law_662 : decode cL_law 662 = .ok (.iaload, 1) := by decide +kernel
theorem dL_law_663 : decode cL_law 663 = .ok (.invokevirtual 85, 3) := by decide +kernel
theorem dL_law_666 : decode cL_law 666 = .ok (.if_icmp .eq 268, 3) := by decide +kernel
theorem dL_law_669 : decode cL_law 669 = .ok (.iconst 0, 1) := by decide +kernel
theorem dL_law_670 : decode cL_law 670 = .ok (.ireturn, 1) := by decide +kernel
theorem dL_law_671 : decode cL_law 671 = .ok (.aload_n 1, 1) := by decide +kernel
theorem dL_law_672 : decode cL_law 672 = .ok (.aload_n 0, 1) := by decide +kernel
theorem dL_law_673 : decode cL_law 673 = .ok (.iload_n 3, 1) := by decide +kernel
theorem dL_law_674 : decode cL_law 674 = .ok (.iconst 1, 1) := by decide +kernel
theorem dL_law_675 : decode cL_law 675 = .ok (.iadd, 1) := by decide +kernel
theorem dL_law_676 : decode cL_law 676 = .ok (.iaload, 1) := by decide +kernel
theorem dL_law_677 : decode cL_law 677 = .ok (.aload_n 0, 1) := by decide +kernel
theorem dL_law_678 : decode cL_law 678 = .ok (.iload_n 3, 1) := by decide +kernel
theorem dL_law_679 : decode cL_law 679 = .ok (.iconst 2, 1) := by decide +kernel
theorem dL_law_680 : decode cL_law 680 = .ok (.iadd, 1) := by decide +kernel
theorem dL_law_681 : decode cL_law 681 = .ok (.iaload, 1) := by decide +kernel
theorem dL_law_682 : decode cL_law 682 = .ok (.invokevirtual 86, 3) := by decide +kernel
theorem dL_law_685 : decode cL_law 685 = .ok (.aload_n 2, 1) := by decide +kernel
theorem dL_law_686 : decode cL_law 686 = .ok (.aload_n 0, 1) := by decide +kernel
theorem dL_law_687 : decode cL_law 687 = .ok (.iload_n 3, 1) := by decide +kernel
theorem dL_law_688 : decode cL_law 688 = .ok (.iconst 1, 1) := by decide +kernel
theorem dL_law_689 : decode cL_law 689 = .ok (.iadd, 1) := by decide +kernel
theorem dL_law_690 : decode cL_law 690 = .ok (.iaload, 1) := by decide +kernel
theorem dL_law_691 : decode cL_law 691 = .ok (.aload_n 0, 1) := by decide +kernel
theorem dL_law_692 : decode cL_law 692 = .ok (.iload_n 3, 1) := by decide +kernel
theorem dL_law_693 : decode cL_law 693 = .ok (.iconst 2, 1) := by decide +kernel
theorem dL_law_694 : decode cL_law 694 = .ok (.iadd, 1) := by decide +kernel
theorem dL_law_695 : decode cL_law 695 = .ok (.iaload, 1) := by decide +kernel
theorem dL_law_696 : decode cL_law 696 = .ok (.invokevirtual 89, 3) := by decide +kernel
theorem dL_law_699 : decode cL_law 699 = .ok (.if_icmp .eq 235, 3) := by decide +kernel
theorem dL_law_702 : decode cL_law 702 = .ok (.iconst 0, 1) := by decide +kernel
theorem dL_law_703 : decode cL_law 703 = .ok (.ireturn, 1) := by decide +kernel
theorem dL_law_704 : decode cL_law 704 = .ok (.aload_n 1, 1) := by decide +kernel
theorem dL_law_705 : decode cL_law 705 = .ok (.aload_n 0, 1) := by decide +kernel
theorem dL_law_706 : decode cL_law 706 = .ok (.iload_n 3, 1) := by decide +kernel
theorem dL_law_707 : decode cL_law 707 = .ok (.iconst 1, 1) := by decide +kernel
theorem dL_law_708 : decode cL_law 708 = .ok (.iadd, 1) := by decide +kernel
theorem dL_law_709 : decode cL_law 709 = .ok (.iaload, 1) := by decide +kernel
theorem dL_law_710 : decode cL_law 710 = .ok (.aload_n 0, 1) := by decide +kernel
theorem dL_law_711 : decode cL_law 711 = .ok (.iload_n 3, 1) := by decide +kernel
theorem dL_law_712 : decode cL_law 712 = .ok (.iconst 2, 1) := by decide +kernel
theorem dL_law_713 : decode cL_law 713 = .ok (.iadd, 1) := by decide +kernel
theorem dL_law_714 : decode cL_law 714 = .ok (.iaload, 1) := by decide +kernel
theorem dL_law_715 : decode cL_law 715 = .ok (.invokevirtual 90, 3) := by decide +kernel
theorem dL_law_718 : decode cL_law 718 = .ok (.aload_n 2, 1) := by decide +kernel
theorem dL_law_719 : decode cL_law 719 = .ok (.aload_n 0, 1) := by decide +kernel
theorem dL_law_720 : decode cL_law 720 = .ok (.iload_n 3, 1) := by decide +kernel
theorem dL_law_721 : decode cL_law 721 = .ok (.iconst 1, 1) := by decide +kernel
theorem dL_law_722 : decode cL_law 722 = .ok (.iadd, 1) := by decide +kernel
theorem dL_law_723 : decode cL_law 723 = .ok (.iaload, 1) := by decide +kernel
theorem dL_law_724 : decode cL_law 724 = .ok (.aload_n 0, 1) := by decide +kernel
theorem dL_law_725 : decode cL_law 725 = .ok (.iload_n 3, 1) := by decide +kernel
theorem dL_law_726 : decode cL_law 726 = .ok (.iconst 2, 1) := by decide +kernel
theorem dL_law_727 : decode cL_law 727 = .ok (.iadd, 1) := by decide +kernel
theorem dL_law_728 : decode cL_law 728 = .ok (.iaload, 1) := by decide +kernel
theorem dL_law_729 : decode cL_law 729 = .ok (.invokevirtual 93, 3) := by decide +kernel
theorem dL_law_732 : decode cL_law 732 = .ok (.if_icmp .eq 202, 3) := by decide +kernel
theorem dL_law_735 : decode cL_law 735 = .ok (.iconst 0, 1) := by decide +kernel
theorem dL_law_736 : decode cL_law 736 = .ok (.ireturn, 1) := by decide +kernel
theorem dL_law_737 : decode cL_law 737 = .ok (.aload_n 1, 1) := by decide +kernel
theorem dL_law_738 : decode cL_law 738 = .ok (.aload_n 0, 1) := by decide +kernel
theorem dL_law_739 : decode cL_law 739 = .ok (.iload_n 3, 1) := by decide +kernel
theorem dL_law_740 : decode cL_law 740 = .ok (.iconst 1, 1) := by decide +kernel
theorem dL_law_741 : decode cL_law 741 = .ok (.iadd, 1) := by decide +kernel
theorem dL_law_742 : decode cL_law 742 = .ok (.iaload, 1) := by decide +kernel
theorem dL_law_743 : decode cL_law 743 = .ok (.invokevirtual 94, 3) := by decide +kernel
theorem dL_law_746 : decode cL_law 746 = .ok (.aload_n 2, 1) := by decide +kernel
theorem dL_law_747 : decode cL_law 747 = .ok (.aload_n 0, 1) := by decide +kernel
theorem dL_law_748 : decode cL_law 748 = .ok (.iload_n 3, 1) := by decide +kernel
theorem dL_law_749 : decode cL_law 749 = .ok (.iconst 1, 1) := by decide +kernel
theorem dL_law_750 : decode cL_law 750 = .ok (.iadd, 1) := by decide +kernel
theorem dL_law_751 : decode cL_law 751 = .ok (.iaload, 1) := by decide +kernel
theorem dL_law_752 : decode cL_law 752 = .ok (.invokevirtual 97, 3) := by decide +kernel
theorem dL_law_755 : decode cL_law 755 = .ok (.if_icmp .eq 179, 3) := by decide +kernel
theorem dL_law_758 : decode cL_law 758 = .ok (.iconst 0, 1) := by decide +kernel
theorem dL_law_759 : decode cL_law 759 = .ok (.ireturn, 1) := by decide +kernel
theorem dL_law_760 : decode cL_law 760 = .ok (.aload_n 1, 1) := by decide +kernel
theorem dL_law_761 : decode cL_law 761 = .ok (.aload_n 0, 1) := by decide +kernel
theorem dL_law_762 : decode cL_law 762 = .ok (.iload_n 3, 1) := by decide +kernel
theorem dL_law_763 : decode cL_law 763 = .ok (.iconst 1, 1) := by decide +kernel
theorem dL_law_764 : decode cL_law 764 = .ok (.iadd, 1) := by decide +kernel
theorem dL_law_765 : decode cL_law 765 = .ok (.iaload, 1) := by decide +kernel
theorem dL_law_766 : decode cL_law 766 = .ok (.invokevirtual 98, 3) := by decide +kernel
theorem dL_law_769 : decode cL_law 769 = .ok (.aload_n 2, 1) := by decide +kernel
theorem dL_law_770 : decode cL_law 770 = .ok (.aload_n 0, 1) := by decide +kernel
theorem dL_law_771 : decode cL_law 771 = .ok (.iload_n 3, 1) := by decide +kernel
theorem dL_law_772 : decode cL_law 772 = .ok (.iconst 1, 1) := by decide +kernel
theorem dL_law_773 : decode cL_law 773 = .ok (.iadd, 1) := by decide +kernel
theorem dL_law_774 : decode cL_law 774 = .ok (.iaload, 1) := by decide +kernel
theorem dL_law_775 : decode cL_law 775 = .ok (.invokevirtual 101, 3) := by decide +kernel
theorem dL_law_778 : decode cL_law 778 = .ok (.if_icmp .eq 156, 3) := by decide +kernel
theorem dL_law_781 : decode cL_law 781 = .ok (.iconst 0, 1) := by decide +kernel
theorem dL_law_782 : decode cL_law 782 = .ok (.ireturn, 1) := by decide +kernel
theorem dL_law_783 : decode cL_law 783 = .ok (.aload_n 1, 1) := by decide +kernel
theorem dL_law_784 : decode cL_law 784 = .ok (.aload_n 0, 1) := by decide +kernel
theorem dL_law_785 : decode cL_law 785 = .ok (.iload_n 3, 1) := by decide +kernel
theorem dL_law_786 : decode cL_law 786 = .ok (.iconst 1, 1) := by decide +kernel
theorem dL_law_787 : decode cL_law 787 = .ok (.iadd, 1) := by decide +kernel
theorem dL_law_788 : decode cL_law 788 = .ok (.iaload, 1) := by decide +kernel
theorem dL_law_789 : decode cL_law 789 = .ok (.invokevirtual 102, 3) := by decide +kernel
theorem dL_law_792 : decode cL_law 792 = .ok (.aload_n 2, 1) := by decide +kernel
theorem dL_law_793 : decode cL_law 793 = .ok (.aload_n 0, 1) := by decide +kernel
theorem dL_law_794 : decode cL_law 794 = .ok (.iload_n 3, 1) := by decide +kernel
theorem dL_law_795 : decode cL_law 795 = .ok (.iconst 1, 1) := by decide +kernel
theorem dL_law_796 : decode cL_law 796 = .ok (.iadd, 1) := by decide +kernel
theorem dL_law_797 : decode cL_law 797 = .ok (.iaload, 1) := by decide +kernel
theorem dL_law_798 : decode cL_law 798 = .ok (.invokevirtual 105, 3) := by decide +kernel
theorem dL_law_801 : decode cL_law 801 = .ok (.if_icmp .eq 133, 3) := by decide +kernel
theorem dL_law_804 : decode cL_law 804 = .ok (.iconst 0, 1) := by decide +kernel
theorem dL_law_805 : decode cL_law 805 = .ok (.ireturn, 1) := by decide +kernel
theorem dL_law_806 : decode cL_law 806 = .ok (.aload_n 1, 1) := by decide +kernel
theorem dL_law_807 : decode cL_law 807 = .ok (.aload_n 0, 1) := by decide +kernel
theorem dL_law_808 : decode cL_law 808 = .ok (.iload_n 3, 1) := by decide +kernel
theorem dL_law_809 : decode cL_law 809 = .ok (.iconst 1, 1) := by decide +kernel
theorem dL_law_810 : decode cL_law 810 = .ok (.iadd, 1) := by decide +kernel
theorem dL_law_811 : decode cL_law 811 = .ok (.iaload, 1) := by decide +kernel
theorem dL_law_812 : decode cL_law 812 = .ok (.invokevirtual 106, 3) := by decide +kernel
theorem dL_law_815 : decode cL_law 815 = .ok (.aload_n 2, 1) := by decide +kernel
theorem dL_law_816 : decode cL_law 816 = .ok (.aload_n 0, 1) := by decide +kernel
theorem dL_law_817 : decode cL_law 817 = .ok (.iload_n 3, 1) := by decide +kernel
theorem dL_law_818 : decode cL_law 818 = .ok (.iconst 1, 1) := by decide +kernel
theorem dL_law_819 : decode cL_law 819 = .ok (.iadd, 1) := by decide +kernel
theorem dL_law_820 : decode cL_law 820 = .ok (.iaload, 1) := by decide +kernel
theorem dL_law_821 : decode cL_law 821 = .ok (.invokevirtual 109, 3) := by decide +kernel
theorem dL_law_824 : decode cL_law 824 = .ok (.if_icmp .eq 110, 3) := by decide +kernel
theorem dL_law_827 : decode cL_law 827 = .ok (.iconst 0, 1) := by decide +kernel
theorem dL_law_828 : decode cL_law 828 = .ok (.ireturn, 1) := by decide +kernel
theorem dL_law_829 : decode cL_law 829 = .ok (.aload_n 1, 1) := by decide +kernel
theorem dL_law_830 : decode cL_law 830 = .ok (.invokevirtual 110, 3) := by decide +kernel
theorem dL_law_833 : decode cL_law 833 = .ok (.aload_n 2, 1) := by decide +kernel
theorem dL_law_834 : decode cL_law 834 = .ok (.invokevirtual 113, 3) := by decide +kernel
theorem dL_law_837 : decode cL_law 837 = .ok (.if_icmp .eq 97, 3) := by decide +kernel
theorem dL_law_840 : decode cL_law 840 = .ok (.iconst 0, 1) := by decide +kernel
theorem dL_law_841 : decode cL_law 841 = .ok (.ireturn, 1) := by decide +kernel
theorem dL_law_842 : decode cL_law 842 = .ok (.aload_n 1, 1) := by decide +kernel
theorem dL_law_843 : decode cL_law 843 = .ok (.aload_n 0, 1) := by decide +kernel
theorem dL_law_844 : decode cL_law 844 = .ok (.iload_n 3, 1) := by decide +kernel
theorem dL_law_845 : decode cL_law 845 = .ok (.iconst 1, 1) := by decide +kernel
theorem dL_law_846 : decode cL_law 846 = .ok (.iadd, 1) := by decide +kernel
theorem dL_law_847 : decode cL_law 847 = .ok (.iaload, 1) := by decide +kernel
theorem dL_law_848 : decode cL_law 848 = .ok (.aload_n 0, 1) := by decide +kernel
theorem dL_law_849 : decode cL_law 849 = .ok (.iload_n 3, 1) := by decide +kernel
theorem dL_law_850 : decode cL_law 850 = .ok (.iconst 2, 1) := by decide +kernel
theorem dL_law_851 : decode cL_law 851 = .ok (.iadd, 1) := by decide +kernel
theorem dL_law_852 : decode cL_law 852 = .ok (.iaload, 1) := by decide +kernel
theorem dL_law_853 : decode cL_law 853 = .ok (.aload_n 0, 1) := by decide +kernel
theorem dL_law_854 : decode cL_law 854 = .ok (.iload_n 3, 1) := by decide +kernel
theorem dL_law_855 : decode cL_law 855 = .ok (.iconst 3, 1) := by decide +kernel
theorem dL_law_856 : decode cL_law 856 = .ok (.iadd, 1) := by decide +kernel
theorem dL_law_857 : decode cL_law 857 = .ok (.iaload, 1) := by decide +kernel
theorem dL_law_858 : decode cL_law 858 = .ok (.invokevirtual 114, 3) := by decide +kernel
theorem dL_law_861 : decode cL_law 861 = .ok (.aload_n 2, 1) := by decide +kernel
theorem dL_law_862 : decode cL_law 862 = .ok (.aload_n 0, 1) := by decide +kernel
theorem dL_law_863 : decode cL_law 863 = .ok (.iload_n 3, 1) := by decide +kernel
theorem dL_law_864 : decode cL_law 864 = .ok (.iconst 1, 1) := by decide +kernel
theorem dL_law_865 : decode cL_law 865 = .ok (.iadd, 1) := by decide +kernel
theorem dL_law_866 : decode cL_law 866 = .ok (.iaload, 1) := by decide +kernel
theorem dL_law_867 : decode cL_law 867 = .ok (.aload_n 0, 1) := by decide +kernel
theorem dL_law_868 : decode cL_law 868 = .ok (.iload_n 3, 1) := by decide +kernel
theorem dL_law_869 : decode cL_law 869 = .ok (.iconst 2, 1) := by decide +kernel
theorem dL_law_870 : decode cL_law 870 = .ok (.iadd, 1) := by decide +kernel
theorem dL_law_871 : decode cL_law 871 = .ok (.iaload, 1) := by decide +kernel
theorem dL_law_872 : decode cL_law 872 = .ok (.aload_n 0, 1) := by decide +kernel
theorem dL_law_873 : decode cL_law 873 = .ok (.iload_n 3, 1) := by decide +kernel
theorem dL_law_874 : decode cL_law 874 = .ok (.iconst 3, 1) := by decide +kernel
theorem dL_law_875 : decode cL_law 875 = .ok (.iadd, 1) := by decide +kernel
theorem dL_law_876 : decode cL_law 876 = .ok (.iaload, 1) := by decide +kernel
theorem dL_law_877 : decode cL_law 877 = .ok (.invokevirtual 117, 3) := by decide +kernel
theorem dL_law_880 : decode cL_law 880 = .ok (.if_icmp .eq 54, 3) := by decide +kernel
theorem dL_law_883 : decode cL_law 883 = .ok (.iconst 0, 1) := by decide +kernel
theorem dL_law_884 : decode cL_law 884 = .ok (.ireturn, 1) := by decide +kernel
theorem dL_law_885 : decode cL_law 885 = .ok (.aload_n 1, 1) := by decide +kernel
theorem dL_law_886 : decode cL_law 886 = .ok (.invokevirtual 118, 3) := by decide +kernel
theorem dL_law_889 : decode cL_law 889 = .ok (.aload_n 2, 1) := by decide +kernel
theorem dL_law_890 : decode cL_law 890 = .ok (.invokevirtual 121, 3) := by decide +kernel
theorem dL_law_893 : decode cL_law 893 = .ok (.if_icmp .eq 41, 3) := by decide +kernel
theorem dL_law_896 : decode cL_law 896 = .ok (.iconst 0, 1) := by decide +kernel
theorem dL_law_897 : decode cL_law 897 = .ok (.ireturn, 1) := by decide +kernel
theorem dL_law_898 : decode cL_law 898 = .ok (.aload_n 1, 1) := by decide +kernel
theorem dL_law_899 : decode cL_law 899 = .ok (.invokevirtual 122, 3) := by decide +kernel
theorem dL_law_902 : decode cL_law 902 = .ok (.aload_n 2, 1) := by decide +kernel
theorem dL_law_903 : decode cL_law 903 = .ok (.invokevirtual 125, 3) := by decide +kernel
theorem dL_law_906 : decode cL_law 906 = .ok (.if_icmp .eq 28, 3) := by decide +kernel
theorem dL_law_909 : decode cL_law 909 = .ok (.iconst 0, 1) := by decide +kernel
theorem dL_law_910 : decode cL_law 910 = .ok (.ireturn, 1) := by decide +kernel
theorem dL_law_911 : decode cL_law 911 = .ok (.aload_n 1, 1) := by decide +kernel
theorem dL_law_912 : decode cL_law 912 = .ok (.aload_n 0, 1) := by decide +kernel
theorem dL_law_913 : decode cL_law 913 = .ok (.iload_n 3, 1) := by decide +kernel
theorem dL_law_914 : decode cL_law 914 = .ok (.iconst 1, 1) := by decide +kernel
theorem dL_law_915 : decode cL_law 915 = .ok (.iadd, 1) := by decide +kernel
theorem dL_law_916 : decode cL_law 916 = .ok (.iaload, 1) := by decide +kernel
theorem dL_law_917 : decode cL_law 917 = .ok (.invokevirtual 126, 3) := by decide +kernel
theorem dL_law_920 : decode cL_law 920 = .ok (.aload_n 2, 1) := by decide +kernel
theorem dL_law_921 : decode cL_law 921 = .ok (.aload_n 0, 1) := by decide +kernel
theorem dL_law_922 : decode cL_law 922 = .ok (.iload_n 3, 1) := by decide +kernel
theorem dL_law_923 : decode cL_law 923 = .ok (.iconst 1, 1) := by decide +kernel
theorem dL_law_924 : decode cL_law 924 = .ok (.iadd, 1) := by decide +kernel
theorem dL_law_925 : decode cL_law 925 = .ok (.iaload, 1) := by decide +kernel
theorem dL_law_926 : decode cL_law 926 = .ok (.invokevirtual 129, 3) := by decide +kernel
theorem dL_law_929 : decode cL_law 929 = .ok (.if_icmp .eq 5, 3) := by decide +kernel
theorem dL_law_932 : decode cL_law 932 = .ok (.iconst 0, 1) := by decide +kernel
theorem dL_law_933 : decode cL_law 933 = .ok (.ireturn, 1) := by decide +kernel
theorem dL_law_934 : decode cL_law 934 = .ok (.iinc 3 5, 3) := by decide +kernel
theorem dL_law_937 : decode cL_law 937 = .ok (.goto (-919), 3) := by decide +kernel
theorem dL_law_940 : decode cL_law 940 = .ok (.iconst 1, 1) := by decide +kernel
theorem dL_law_941 : decode cL_law 941 = .ok (.ireturn, 1) := by decide +kernel
end
section
/-! whole numbers: every int is iI of an integer -/
def iI (z : Int) : Int32 := Int32.ofInt z
theorem iI_add (a b : Int) : iI a + iI b = iI (a + b) := (Int32.ofInt_add a b).symm
theorem iI_sub (a b : Int) : iI a - iI b = iI (a - b) := (Int32.ofInt_sub a b).symm
theorem iI_mul (a b : Int) : iI a * iI b = iI (a * b) := (Int32.ofInt_mul a b).symm
theorem iI_neg (a : Int) : -iI a = iI (-a) := (Int32.ofInt_neg a).symm
theorem iI_toInt {a : Int} (h : -2147483648 ≤ a ∧ a < 2147483648) : (iI a).toInt = a := Int32.toInt_ofInt_of_le (by omega) (by omega)
theorem iI_asI (x : Int32) : iI x.toInt = x := Int32.ofInt_toInt x
theorem iI_rng (x : Int32) : -2147483648 ≤ x.toInt ∧ x.toInt < 2147483648 := by
  have h1 := x.le_toInt
  have h2 := x.toInt_lt
  omega
theorem iI_of (x : Int32) : ∃ z : Int, (-2147483648 ≤ z ∧ z < 2147483648) ∧ x = iI z := ⟨x.toInt, iI_rng x, (iI_asI x).symm⟩
theorem iI_nat (n : Nat) : iI (n : Int) = nI n := by
  show Int32.ofInt (n : Int) = Int32.ofNat n
  exact Int32.ofInt_eq_ofNat
theorem iI_eq {a b : Int} (ha : -2147483648 ≤ a ∧ a < 2147483648) (hb : -2147483648 ≤ b ∧ b < 2147483648) : iI a = iI b ↔ a = b := by
  rw [← Int32.toInt_inj, iI_toInt ha, iI_toInt hb]
theorem iI_lt {a b : Int} (ha : -2147483648 ≤ a ∧ a < 2147483648) (hb : -2147483648 ≤ b ∧ b < 2147483648) : iI a < iI b ↔ a < b := by
  rw [Int32.lt_iff_toInt_lt, iI_toInt ha, iI_toInt hb]
theorem iI_le {a b : Int} (ha : -2147483648 ≤ a ∧ a < 2147483648) (hb : -2147483648 ≤ b ∧ b < 2147483648) : iI a ≤ iI b ↔ a ≤ b := by
  rw [Int32.le_iff_toInt_le, iI_toInt ha, iI_toInt hb]
theorem iI_0 : iI 0 = 0 := rfl
theorem iI_clamp {z : Int} (h : -2147483648 ≤ z ∧ z < 2147483648) : (iI z).toNatClampNeg = z.toNat := by
  show (iI z).toInt.toNat = z.toNat
  rw [iI_toInt h]
theorem iI_in {z : Int} {n : Nat} (h : 0 ≤ z ∧ z < n) (hn : n < 2147483648) : vp_in (iI z) n := by
  rw [vp_in_iff, iI_toInt (by omega)]
  exact h
theorem iI_div {a b : Int} (ha : 0 ≤ a ∧ a < 2147483648) (hb : 0 < b ∧ b < 2147483648) : iI a / iI b = iI (a / b) := by
  apply Int32.toInt_inj.mp
  rw [Int32.toInt_div, iI_toInt (by omega), iI_toInt (by omega), Int.tdiv_eq_ediv_of_nonneg ha.1]
  have h1 : 0 ≤ a / b := Int.ediv_nonneg ha.1 (by omega)
  have h2 : a / b ≤ a := Int.ediv_le_self _ ha.1
  rw [iI_toInt (by omega)]
  exact Int.bmod_eq_of_le (by omega) (by omega)
theorem iI_rem {a b : Int} (ha : 0 ≤ a ∧ a < 2147483648) (hb : 0 < b ∧ b < 2147483648) : iI a - iI a / iI b * iI b = iI (a % b) := by
  rw [iI_div ha hb, iI_mul, iI_sub]
  congr 1
  have := Int.emod_add_mul_ediv a b
  have h2 : a / b * b = b * (a / b) := Int.mul_comm _ _
  omega
/-! powers of two, bits -/
def zp2 (b : Int) : Int := 2 ^ b.toNat
theorem zp2_pos (b : Int) : 0 < zp2 b := Int.pow_pos (by decide)
theorem zs_l : ∀ n, n < 32 → ((nI n &&& 31).toBitVec.smod 32).toNat = n := by decide
theorem iI_bvn (a : Int) : ((iI a).toBitVec.toNat : Int) = a % 4294967296 := by
  show (((BitVec.ofInt 32 a).toNat : Nat) : Int) = _
  rw [BitVec.toNat_ofInt]
  have : 0 ≤ a % (2 ^ 32 : Nat) := Int.emod_nonneg _ (by decide)
  rw [Int.toNat_of_nonneg this]
  rfl
theorem i32_ext {x y : Int32} (h : x.toBitVec.toNat = y.toBitVec.toNat) : x = y := Int32.toBitVec.inj (BitVec.eq_of_toNat_eq h)
theorem iI_shl {a b : Int} (hb : 0 ≤ b ∧ b < 32) : iI a <<< (iI b &&& 31) = iI (a * zp2 b) := by
  obtain ⟨n, rfl⟩ : ∃ n : Nat, b = (n : Int) := ⟨b.toNat, by omega⟩
  have hn : n < 32 := by omega
  apply i32_ext
  rw [iI_nat, pk_shl _ _ n (zs_l n hn)]
  have h1 := iI_bvn a
  have h2 := iI_bvn (a * zp2 (n : Int))
  have h3 : zp2 (n : Int) = ((2 ^ n : Nat) : Int) := by
    show (2 : Int) ^ ((n : Int).toNat) = _
    rw [Int.toNat_natCast]
    simp
  have h4 : (((iI a).toBitVec.toNat * 2 ^ n % 2 ^ 32 : Nat) : Int) = (a * zp2 (n : Int)) % 4294967296 := by
    rw [Int.natCast_emod, Int.natCast_mul, h1, h3]
    show (a % 4294967296 * ((2 ^ n : Nat) : Int)) % 4294967296 = _
    rw [Int.mul_emod, Int.emod_emod_of_dvd _ (Int.dvd_refl _), ← Int.mul_emod]
  omega
theorem iI_shr {a b : Int} (ha : -2147483648 ≤ a ∧ a < 2147483648) (hb : 0 ≤ b ∧ b < 32) : iI a >>> (iI b &&& 31) = iI (a / zp2 b) := by
  obtain ⟨n, rfl⟩ : ∃ n : Nat, b = (n : Int) := ⟨b.toNat, by omega⟩
  have hn : n < 32 := by omega
  have h := pk_shr (iI a) (iI (n : Int) &&& 31) n (by rw [iI_nat]; exact zs_l n hn)
  rw [← iI_asI (iI a >>> (iI (n : Int) &&& 31)), h, iI_toInt ha, Int.shiftRight_eq_div_pow]
  congr 2
def zand (a b : Int) : Int := (iI a &&& iI b).toInt
def zor (a b : Int) : Int := (iI a ||| iI b).toInt
def zxor (a b : Int) : Int := (iI a ^^^ iI b).toInt
theorem iI_and (a b : Int) : iI a &&& iI b = iI (zand a b) := (iI_asI _).symm
theorem iI_or (a b : Int) : iI a ||| iI b = iI (zor a b) := (iI_asI _).symm
theorem iI_xor (a b : Int) : iI a ^^^ iI b = iI (zxor a b) := (iI_asI _).symm
theorem zand_rng (a b : Int) : -2147483648 ≤ zand a b ∧ zand a b < 2147483648 := iI_rng _
theorem zor_rng (a b : Int) : -2147483648 ≤ zor a b ∧ zor a b < 2147483648 := iI_rng _
theorem zxor_rng (a b : Int) : -2147483648 ≤ zxor a b ∧ zxor a b < 2147483648 := iI_rng _
theorem zand_mask (a : Int) (m : Int) (k : Nat) (hk : k < 32) (hm : (iI m).toBitVec.toNat = 2 ^ k - 1) : zand a m = a % ((2 ^ k : Nat) : Int) := by
  unfold zand
  rw [pk_and (iI a) k hm]
  have h2 : (iI a).toBitVec.toNat % 2 ^ k < 2 ^ k := Nat.mod_lt _ (Nat.two_pow_pos k)
  have h3 : 2 ^ k ≤ 2 ^ 31 := Nat.pow_le_pow_right (by decide) (by omega)
  rw [nI_toInt (by omega), Int.natCast_emod, iI_bvn, Int.emod_emod_of_dvd]
  have h4 : (4294967296 : Int) = ((2 ^ 32 : Nat) : Int) := by decide
  rw [h4]
  exact Int.natCast_dvd_natCast.mpr (Nat.pow_dvd_pow 2 (by omega))
theorem zand_1 (a : Int) : zand a 1 = a % 2 := zand_mask a 1 1 (by decide) (by decide)
theorem zand_31 (a : Int) : zand a 31 = a % 32 := zand_mask a 31 5 (by decide) (by decide)
theorem zand_7f (a : Int) : zand a 2147483647 = a % 2147483648 := zand_mask a 2147483647 31 (by decide) (by decide)
theorem zxor_m1 {a : Int} (ha : -2147483648 ≤ a ∧ a < 2147483648) : zxor a (-1) = -a - 1 := by
  have h : iI a ^^^ iI (-1) = iI (-a - 1) := by
    have e : iI (-1) = -1 := rfl
    rw [e]
    have h1 : iI a ^^^ (-1 : Int32) = ~~~ iI a := by
      apply Int32.toBitVec.inj
      rw [Int32.toBitVec_xor, Int32.toBitVec_not]
      show (iI a).toBitVec ^^^ BitVec.allOnes 32 = _
      exact BitVec.xor_allOnes
    rw [h1, Int32.not_eq_neg_sub, iI_neg]
    exact iI_sub (-a) 1
  unfold zxor
  rw [h, iI_toInt (by omega)]
/-- 1 if so, else 0 -/
def zb (p : Prop) [Decidable p] : Int := if p then 1 else 0
theorem zb_t {p : Prop} [Decidable p] (h : p) : zb p = 1 := if_pos h
theorem zb_f {p : Prop} [Decidable p] (h : ¬ p) : zb p = 0 := if_neg h
theorem zb_cg {p q : Prop} [Decidable p] [Decidable q] (h : p ↔ q) : zb p = zb q := by
  by_cases hp : p
  · rw [zb_t hp, zb_t (h.mp hp)]
  · rw [zb_f hp, zb_f (fun hq => hp (h.mpr hq))]
theorem zb_r (p : Prop) [Decidable p] : 0 ≤ zb p ∧ zb p ≤ 1 := by
  unfold zb
  split <;> decide
theorem zb_eq0 {p : Prop} [Decidable p] : zb p = 0 ↔ ¬ p := by
  unfold zb
  split <;> simp_all
theorem zb_eq1 {p : Prop} [Decidable p] : zb p = 1 ↔ p := by
  unfold zb
  split <;> simp_all
/-- an amount -/
def zabs (z : Int) : Int := if z < 0 then -z else z
end
section
/-! the words of the tables that a callee may be given, and those of nest mates -/
def lw_g : List Cond := lw_tbl.filter goodWord
theorem lw_g_in {w : Cond} (h : w ∈ lw_g) : w ∈ lw_tbl := (List.mem_filter.mp h).1
theorem lw_g_of {w : Cond} (h : w ∈ lw_tbl) (hg : goodWord w = true) : w ∈ lw_g := List.mem_filter.mpr ⟨h, hg⟩
def isNest : Cond → Bool
  | .methodLinkNest .. => true
  | _ => false
def lw_n : List Cond := lw_tbl.filter isNest
theorem lw_n_of {w : Cond} (h : w ∈ lw_tbl) (hg : isNest w = true) : w ∈ lw_n := List.mem_filter.mpr ⟨h, hg⟩
theorem nest_warm {w : Cond} (hw : isNest w = true) {s U : State} (hW : s.WarmedH U.vm) (h : va_Nw w s) : va_Nw w U := by
  cases w <;> first | (simp [isNest] at hw; done) | exact va_Nw.warmM hW h
theorem nest_tab {w : Cond} (hw : isNest w = true) : w.onTables = true := by
  cases w <;> first | (simp [isNest] at hw; done) | rfl
/-! worlds: groups of cells -/
abbrev GT : Type := va_G × ClassId × ClassId × (Nat → Nat) × (Nat → Nat)
def tyG (G : GT) : List (ClassId × FieldType) := [(G.2.1, .int), (G.2.2.1, .object RX1)]
def Ad (gs : List va_W) (q : Nat) : Prop := q ∈ (gs.map (List.map Prod.fst)).flatten
def shp (gs : List va_W) : List (List Nat) := gs.map (List.map Prod.fst)
theorem shp_fl (gs : List va_W) : (shp gs).flatten = gs.flatten.map Prod.fst := by
  unfold shp
  rw [← List.map_flatten]
def DG (A : Nat → Prop) (gs : List va_W) : Prop := (shp gs).flatten.Nodup ∧ ∀ q ∈ (shp gs).flatten, A q
theorem DG.va {A : Nat → Prop} {gs : List va_W} (h : DG A gs) : va_D A gs.flatten := by
  obtain ⟨h1, h2⟩ := h
  rw [shp_fl] at h1 h2
  refine ⟨fun i j p q hi hj hpq => ?_, fun k q hk => ?_⟩
  · have a1 : (gs.flatten.map Prod.fst)[i]? = some p.1 := by rw [List.getElem?_map, hi]; rfl
    have a2 : (gs.flatten.map Prod.fst)[j]? = some q.1 := by rw [List.getElem?_map, hj]; rfl
    rw [← hpq] at a2
    have hi' := (List.getElem?_eq_some_iff.mp a1).1
    exact (List.getElem?_inj hi' h1).mp (a1.trans a2.symm)
  · exact h2 _ (List.mem_map.mpr ⟨q, List.mem_of_getElem? hk, rfl⟩)
theorem DG.same {A : Nat → Prop} {gs gs' : List va_W} (h : DG A gs) (e : shp gs' = shp gs) : DG A gs' := by
  unfold DG
  rw [e]
  exact h
/-- the cells hold -/
def PG (D : va_G) (gs : List va_W) (H : Heap) : Prop := va_P D vwCl gs.flatten H
theorem va_P_mem {D : va_G} {cl : List vw_C} {ws : va_W} {H : Heap} : va_P D cl ws H ↔ ∀ q ∈ ws, va_at D cl q H := by
  refine ⟨fun h q hq => ?_, fun h k q hk => h q (List.mem_of_getElem? hk)⟩
  obtain ⟨k, hk⟩ := List.getElem?_of_mem hq
  exact h k q hk
theorem PG.mem {D : va_G} {gs : List va_W} {H : Heap} : PG D gs H ↔ ∀ g ∈ gs, ∀ q ∈ g, va_at D vwCl q H := by
  unfold PG
  rw [va_P_mem]
  constructor
  · intro h g hg q hq
    exact h q (List.mem_flatten.mpr ⟨g, hg, hq⟩)
  · intro h q hq
    obtain ⟨g, hg, hq⟩ := List.mem_flatten.mp hq
    exact h g hg q hq
/-- the places of a group's cells among all -/
def offG : List va_W → Nat → Nat
  | [], _ => 0
  | _ :: _, 0 => 0
  | g :: gs, i + 1 => g.length + offG gs i
theorem off_get : ∀ {gs : List va_W} {i k : Nat} {g : va_W} {q : Nat × va_E}, gs[i]? = some g → g[k]? = some q → gs.flatten[offG gs i + k]? = some q
  | [], i, k, g, q, h, _ => by simp at h
  | g0 :: gs, 0, k, g, q, h, h2 => by
    rw [List.getElem?_cons_zero] at h
    cases h
    have hl := (List.getElem?_eq_some_iff.mp h2).1
    show (g0 ++ gs.flatten)[0 + k]? = some q
    rw [Nat.zero_add, List.getElem?_append_left hl]
    exact h2
  | g0 :: gs, i + 1, k, g, q, h, h2 => by
    rw [List.getElem?_cons_succ] at h
    have ih := off_get h h2
    show (g0 ++ gs.flatten)[g0.length + offG gs i + k]? = some q
    rw [List.getElem?_append_right (by omega)]
    rw [show g0.length + offG gs i + k - g0.length = offG gs i + k by omega]
    exact ih
theorem off_set : ∀ {gs : List va_W} {i k : Nat} {g : va_W} {x : Nat × va_E}, gs[i]? = some g → k < g.length → gs.flatten.set (offG gs i + k) x = (gs.set i (g.set k x)).flatten
  | [], i, k, g, x, h, _ => by simp at h
  | g0 :: gs, 0, k, g, x, h, hk => by
    rw [List.getElem?_cons_zero] at h
    cases h
    show (g0 ++ gs.flatten).set (0 + k) x = (g0.set k x) ++ gs.flatten
    rw [Nat.zero_add, List.set_append_left _ _ hk]
  | g0 :: gs, i + 1, k, g, x, h, hk => by
    rw [List.getElem?_cons_succ] at h
    have ih := off_set (x := x) h hk
    show (g0 ++ gs.flatten).set (g0.length + offG gs i + k) x = g0 ++ (gs.set i (g.set k x)).flatten
    rw [List.set_append_right _ _ (by omega), ← ih]
    rw [show g0.length + offG gs i + k - g0.length = offG gs i + k by omega]
theorem shp_set {gs : List va_W} {i : Nat} {g g' : va_W} (h : gs[i]? = some g) (e : g'.map Prod.fst = g.map Prod.fst) : shp (gs.set i g') = shp gs := by
  unfold shp
  rw [List.map_set, e]
  apply List.ext_getElem?
  intro j
  by_cases hj : i = j
  · subst hj
    rw [List.getElem?_set_self', List.getElem?_map, h]
    rfl
  · rw [List.getElem?_set_ne hj]
/-- some groups put in their places -/
def ups : List va_W → List Nat → List va_W → List va_W
  | gs, i :: is, g :: gl => ups (gs.set i g) is gl
  | gs, _, _ => gs
theorem ups_mem : ∀ {is : List Nat} {gl gs : List va_W} {g : va_W}, is.length = gl.length → g ∈ ups gs is gl → g ∈ gl ∨ ∃ j, gs[j]? = some g ∧ j ∉ is
  | [], [], gs, g, _, h => by
    obtain ⟨j, hj⟩ := List.getElem?_of_mem h
    exact Or.inr ⟨j, hj, List.not_mem_nil⟩
  | [], _ :: _, _, _, hl, _ => by cases hl
  | _ :: _, [], _, _, hl, _ => by cases hl
  | i :: is, g0 :: gl, gs, g, hl, h => by
    rcases ups_mem (is := is) (gl := gl) (by simpa using hl) h with h1 | ⟨j, h1, h2⟩
    · exact Or.inl (List.mem_cons_of_mem _ h1)
    · by_cases hj : i = j
      · subst hj
        rw [List.getElem?_set_self'] at h1
        cases hq : gs[i]? with
        | none => rw [hq] at h1; cases h1
        | some z =>
          rw [hq] at h1
          cases h1
          exact Or.inl List.mem_cons_self
      · rw [List.getElem?_set_ne hj] at h1
        refine Or.inr ⟨j, h1, fun hm => ?_⟩
        rcases List.mem_cons.mp hm with e | e
        · exact hj e.symm
        · exact h2 e
theorem ups_shp : ∀ {is : List Nat} {gc gl gs : List va_W}, is.map (fun i => gs[i]?) = gc.map some → is.Nodup → shp gl = shp gc → shp (ups gs is gl) = shp gs
  | [], gc, gl, gs, _, _, _ => by cases gl <;> rfl
  | i :: is, [], gl, gs, h, _, _ => by cases h
  | i :: is, g0 :: gc, [], gs, _, _, e => by cases e
  | i :: is, g0 :: gc, g1 :: gl, gs, h, hn, e => by
    have h1 : gs[i]? = some g0 := (List.cons.inj h).1
    have h2 : is.map (fun i => gs[i]?) = gc.map some := (List.cons.inj h).2
    have e1 : g1.map Prod.fst = g0.map Prod.fst := (List.cons.inj e).1
    have e2 : shp gl = shp gc := (List.cons.inj e).2
    have hn1 := List.nodup_cons.mp hn
    have h3 : is.map (fun j => (gs.set i g1)[j]?) = gc.map some := by
      rw [← h2]
      apply List.map_congr_left
      intro j hj
      exact List.getElem?_set_ne (fun q => hn1.1 (by rw [q]; exact hj))
    have := ups_shp (is := is) h3 hn1.2 e2
    show shp (ups (gs.set i g1) is gl) = shp gs
    rw [this]
    exact shp_set h1 e1
/-- addresses of two groups are apart -/
theorem DG.apart {A : Nat → Prop} {gs : List va_W} (h : DG A gs) {i j : Nat} {g1 g2 : va_W} (h1 : gs[i]? = some g1) (h2 : gs[j]? = some g2) (hij : i ≠ j) {a : Nat} (ha : a ∈ g1.map Prod.fst) (hb : a ∈ g2.map Prod.fst) : False := by
  have hn := (List.pairwise_flatten.mp h.1).2
  have e1 : (shp gs)[i]? = some (g1.map Prod.fst) := by unfold shp; rw [List.getElem?_map, h1]; rfl
  have e2 : (shp gs)[j]? = some (g2.map Prod.fst) := by unfold shp; rw [List.getElem?_map, h2]; rfl
  obtain ⟨hi, e1⟩ := List.getElem?_eq_some_iff.mp e1
  obtain ⟨hj, e2⟩ := List.getElem?_eq_some_iff.mp e2
  rcases Nat.lt_or_ge i j with q | q
  · exact List.pairwise_iff_getElem.mp hn i j hi hj q a (by rw [e1]; exact ha) a (by rw [e2]; exact hb) rfl
  · exact List.pairwise_iff_getElem.mp hn j i hj hi (by omega) a (by rw [e2]; exact hb) a (by rw [e1]; exact ha) rfl
/-- facts that nobody writes: the literals, two statics, the words of nest mates -/
def lenJ : List Nat := [3, 4, 2, 3, 0, 6]
def bytJ : List (List Int32) := [[57, 57, 59], [107, 57, 57, 59], [57, 59], [57, 63, 59], [], [100, 111, 121, 115, 98, 116]]
def litJ : List (Nat × String) := [(54, "99;"), (56, "k99;"), (58, "9;"), (60, "9?;"), (62, ""), (93, "doysbt")]
def SF (G : GT) (A : Nat → Prop) (U : State) (H : Heap) : Prop :=
  vk_S 6 lenJ bytJ G.2.2.2.1 G.2.2.2.2 A U H ∧ (∀ (i : Nat) (q : Nat × String), litJ[i]? = some q → vk_R RX5 q.1 q.2 (G.2.2.2.1 i) U) ∧ va_Z "java/lang/String" "COMPACT_STRINGS" "Z" (.int 1) A U H ∧ va_Zq "jdk/internal/util/Preconditions" "SIOOBE_FORMATTER" "Ljava/util/function/BiFunction;" A U H ∧ (∀ w ∈ lw_n, va_Nw w U) ∧ va_AO RX1 U
theorem SF.kept {G : GT} {A : Nat → Prop} {U : State} {H H1 : Heap} (h : SF G A U H) (hq : ∀ a : Nat, a < H.size → ¬ A a → H1[a]? = H[a]?) : SF G A U H1 :=
  ⟨h.1.kept hq, h.2.1, h.2.2.1.kept hq, h.2.2.2.1.kept hq, h.2.2.2.2⟩
theorem SF.narrow {G : GT} {A B : Nat → Prop} {U : State} {H : Heap} (h : SF G A U H) (hAB : ∀ q, B q → A q) : SF G B U H :=
  ⟨h.1.narrow hAB, h.2.1, h.2.2.1.narrow hAB, h.2.2.2.1.narrow hAB, h.2.2.2.2⟩
theorem SF.warm {G : GT} {A : Nat → Prop} {s U : State} {H : Heap} (hW : s.WarmedH U.vm) (h : SF G A s H) : SF G A U H :=
  ⟨vk_S.moved hW.alike h.1, fun i q hi => vk_R.warm hW (h.2.1 i q hi), va_Z.moved hW.alike h.2.2.1, va_Zq.moved hW.alike h.2.2.2.1, fun w hw => nest_warm (List.mem_filter.mp hw).2 hW (h.2.2.2.2.1 w hw), va_AO.moved hW.alike h.2.2.2.2.2⟩
theorem SF.calling {G : GT} {A : Nat → Prop} {U : State} {H : Heap} (g : JFrame) (mk : MethodId) (a : Array Value) (h : SF G A U H) : SF G A (U.calling g mk a) H :=
  ⟨vk_S.moved (u := U) (U := U.calling g mk a) (Vm.Alike.refl U.vm) h.1, fun i q hi => vk_R.same (u := U) (U := U.calling g mk a) rfl (h.2.1 i q hi), va_Z.moved (u := U) (U := U.calling g mk a) (Vm.Alike.refl U.vm) h.2.2.1, va_Zq.moved (u := U) (U := U.calling g mk a) (Vm.Alike.refl U.vm) h.2.2.2.1, fun w hw => va_Nw.same (nest_tab (List.mem_filter.mp hw).2) (u := U) (U := U.calling g mk a) rfl (h.2.2.2.2.1 w hw), va_AO.moved (u := U) (U := U.calling g mk a) (Vm.Alike.refl U.vm) h.2.2.2.2.2⟩
/-! a method's contract: from the groups gs, called with av, it answers v and leaves gs' as Post says -/
def Pcn (G : GT) (av : List Value) (gs : List va_W) : Array Value → State → Prop := fun a U => a = av.toArray ∧ PG G.1 gs U.heap ∧ (shp gs).flatten.Nodup ∧ va_K G.1 vwCl (tyG G) U ∧ SF G (Ad gs) U U.heap
def Qcn (G : GT) (gs : List va_W) (Post : Option Value → List va_W → Prop) : Array Value → State → Outcome → State → Prop := fun _ s o t => ∃ (v : Option Value) (gs' : List va_W), o = .returned v ∧ Post v gs' ∧ shp gs' = shp gs ∧ PG G.1 gs' t.heap ∧ va_F (Ad gs) s t
abbrev wU (y : MethodName) (bytes : ByteArray) (maxL : Nat) (ret : Option FieldType) : List Cond := .code y bytes maxL ret :: lw_g
def Cn (l : Launch) (y : MethodName) (bytes : ByteArray) (maxL : Nat) (ret : Option FieldType) (rm : Room) (G : GT) (av : List Value) (gs : List va_W) (Post : Option Value → List va_W → Prop) : Prop :=
  Met l y (wU y bytes maxL ret) rm (Pcn G av gs) (Qcn G gs Post) 0 0 (Ad gs)
/-- just so: the answer v, the groups gs -/
def jst (v : Option Value) (gs : List va_W) : Option Value → List va_W → Prop := fun a b => a = v ∧ b = gs
theorem jst_r (v : Option Value) (gs : List va_W) : jst v gs v gs := ⟨rfl, rfl⟩
/-! the judgement at an instruction -/
abbrev KT : Type := Program × Launch × Env × Room × State × MethodId × Array Value × List Frame × Method × Code × Nat × Nat × (State → Prop) × (Nat → Prop) × Nat
abbrev kp (K : KT) : Program := K.1
abbrev kl (K : KT) : Launch := K.2.1
abbrev ke (K : KT) : Env := K.2.2.1
abbrev kR (K : KT) : Room := K.2.2.2.1
abbrev ks (K : KT) : State := K.2.2.2.2.1
abbrev km (K : KT) : MethodId := K.2.2.2.2.2.1
abbrev ka (K : KT) : Array Value := K.2.2.2.2.2.2.1
abbrev kb (K : KT) : List Frame := K.2.2.2.2.2.2.2.1
abbrev kme (K : KT) : Method := K.2.2.2.2.2.2.2.2.1
abbrev kc (K : KT) : Code := K.2.2.2.2.2.2.2.2.2.1
abbrev kn (K : KT) : Nat := K.2.2.2.2.2.2.2.2.2.2.1
abbrev kt (K : KT) : Nat := K.2.2.2.2.2.2.2.2.2.2.2.1
abbrev kQ (K : KT) : State → Prop := K.2.2.2.2.2.2.2.2.2.2.2.2.1
abbrev kA (K : KT) : Nat → Prop := K.2.2.2.2.2.2.2.2.2.2.2.2.2.1
abbrev kL (K : KT) : Nat := K.2.2.2.2.2.2.2.2.2.2.2.2.2.2
/-- the locals, all of one slot -/
def LV (ls : Array Slot) (nL : Nat) (vs : List (Option Value)) : Prop := ls.size = nL ∧ lv_wf ls ∧ vs.length = nL ∧ ∀ (i : Nat) (v : Value), vs[i]? = some (some v) → v.category = 1 ∧ ls[i]? = some (.val v)
def Wc (K : KT) (G : GT) (pc : Nat) (vs : List (Option Value)) (st : List Value) (gs : List va_W) : Prop :=
  ∀ (H : Heap) (locs : List Loc) (ls : Array Slot), PG G.1 gs H → DG (kA K) gs → va_S (kA K) (ks K).heap H locs → LV ls (kL K) vs → W (kp K) (kl K) (ke K) (kR K) (ks K) (km K) (ka K) (kb K) (kme K) (kc K) H locs (kn K) (kt K) (kQ K) (F0 (km K) pc ls st)
/-- what holds of the method that runs -/
def Cf (K : KT) (l : Launch) (G : GT) (cc : ByteArray) (own : String) (ret : Option FieldType) (rm : Room) : Prop :=
  (kp K).tables.exec = Jvm.exec ∧ (kc K).code = cc ∧ (kme K).sig.returnType = ret ∧ (kme K).locks = false ∧ (kc K).maxLocals = kL K ∧ (ks K).vm.findClass own = some (km K).cls ∧ (∀ w ∈ lw_g, w.before (ka K) (ks K) = true) ∧ va_K G.1 vwCl (tyG G) (ks K) ∧ SF G (kA K) (ks K) (ks K).heap ∧ kl K = l ∧ kR K = rm ∧ kn K ≤ rm.cells ∧ kt K ≤ rm.slots
/-- what is due at its end -/
def Rq (K : KT) (G : GT) (gs0 : List va_W) (Post : Option Value → List va_W → Prop) : Prop := kQ K = MQ (kb K) (Qcn G gs0 Post) (ka K) (ks K) 0 0 (Ad gs0) ∧ kA K = Ad gs0 ∧ kn K = 0 ∧ kt K = 0
section
variable {K : KT} {l : Launch} {G : GT} {cc : ByteArray} {own : String} {ret : Option FieldType} {rm : Room}
theorem Cf.x (C : Cf K l G cc own ret rm) : (kp K).tables.exec = Jvm.exec := C.1
theorem Cf.b (C : Cf K l G cc own ret rm) : (kc K).code = cc := C.2.1
theorem Cf.r (C : Cf K l G cc own ret rm) : (kme K).sig.returnType = ret := C.2.2.1
theorem Cf.lk (C : Cf K l G cc own ret rm) : (kme K).locks = false := C.2.2.2.1
theorem Cf.ml (C : Cf K l G cc own ret rm) : (kc K).maxLocals = kL K := C.2.2.2.2.1
theorem Cf.o (C : Cf K l G cc own ret rm) : (ks K).vm.findClass own = some (km K).cls := C.2.2.2.2.2.1
theorem Cf.t (C : Cf K l G cc own ret rm) : ∀ w ∈ lw_g, w.before (ka K) (ks K) = true := C.2.2.2.2.2.2.1
theorem Cf.k (C : Cf K l G cc own ret rm) : va_K G.1 vwCl (tyG G) (ks K) := C.2.2.2.2.2.2.2.1
theorem Cf.z (C : Cf K l G cc own ret rm) : SF G (kA K) (ks K) (ks K).heap := C.2.2.2.2.2.2.2.2.1
theorem Cf.la (C : Cf K l G cc own ret rm) : kl K = l := C.2.2.2.2.2.2.2.2.2.1
theorem Cf.R (C : Cf K l G cc own ret rm) : kR K = rm := C.2.2.2.2.2.2.2.2.2.2.1
theorem Cf.n (C : Cf K l G cc own ret rm) : kn K ≤ rm.cells ∧ kt K ≤ rm.slots := C.2.2.2.2.2.2.2.2.2.2.2
end
end
section
/-! rows of Wc: an instruction each -/
section
variable {K : KT} {l : Launch} {G : GT} {cc : ByteArray} {own : String} {ret : Option FieldType} {rm : Room} {pc : Nat} {vs : List (Option Value)} {st : List Value} {gs : List va_W}
theorem Wc.eq {pc' : Nat} {vs' : List (Option Value)} {st' : List Value} {gs' : List va_W} (k : Wc K G pc' vs' st' gs') (h1 : pc = pc') (h2 : vs = vs') (h3 : st = st') (h4 : gs = gs') : Wc K G pc vs st gs := by
  subst h1 h2 h3 h4
  exact k
/-- fewer locals -/
theorem Wc.less {vs' : List (Option Value)} (k : Wc K G pc vs' st gs) (hl : vs'.length = vs.length) (h : ∀ (i : Nat) (v : Value), vs'[i]? = some (some v) → vs[i]? = some (some v)) : Wc K G pc vs st gs := by
  intro H locs ls hP hD hS hL
  exact k H locs ls hP hD hS ⟨hL.1, hL.2.1, hl.trans hL.2.2.1, fun i v hi => hL.2.2.2 i v (h i v hi)⟩
theorem r_iconst (C : Cf K l G cc own ret rm) {n : Int} (hd : decode cc pc = .ok (.iconst n, 1)) (k : Wc K G (pc + 1) vs (.int (iI n) :: st) gs) : Wc K G pc vs (st) gs := by
  intro H locs ls hP hD hS hl
  exact lv_iconst C.x C.b hd rfl (k H locs ls hP hD hS hl)
theorem r_bipush (C : Cf K l G cc own ret rm) {n : Int} (hd : decode cc pc = .ok (.bipush n, 2)) (hv : (Int8.ofInt n).toInt32 = iI n) (k : Wc K G (pc + 2) vs (.int (iI n) :: st) gs) : Wc K G pc vs (st) gs := by
  intro H locs ls hP hD hS hl
  exact lv_bipush C.x C.b hd hv (k H locs ls hP hD hS hl)
theorem r_sipush (C : Cf K l G cc own ret rm) {n : Int} (hd : decode cc pc = .ok (.sipush n, 3)) (hv : (Int16.ofInt n).toInt32 = iI n) (k : Wc K G (pc + 3) vs (.int (iI n) :: st) gs) : Wc K G pc vs (st) gs := by
  intro H locs ls hP hD hS hl
  exact lv_sipush C.x C.b hd hv (k H locs ls hP hD hS hl)
theorem r_ldc (C : Cf K l G cc own ret rm) {idx : Nat} {n : Int} {v : Int32} (hd : decode cc pc = .ok (.ldc idx, 2)) (hw : Cond.constant own idx v ∈ lw_g) (hv : v = iI n) (k : Wc K G (pc + 2) vs (.int (iI n) :: st) gs) : Wc K G pc vs (st) gs := by
  intro H locs ls hP hD hS hl
  exact lv_ldc C.x C.b C.o (v := iI n) (by rw [← hv]; exact C.t _ hw) hd (k H locs ls hP hD hS hl)
theorem r_iadd (C : Cf K l G cc own ret rm) {a b : Int} (hd : decode cc pc = .ok (.iadd, 1)) (k : Wc K G (pc + 1) vs (.int (iI (a + b)) :: st) gs) : Wc K G pc vs (.int (iI b) :: .int (iI a) :: st) gs := by
  intro H locs ls hP hD hS hl
  exact lv_iadd C.x C.b hd (by rw [iI_add]; exact k H locs ls hP hD hS hl)
theorem r_isub (C : Cf K l G cc own ret rm) {a b : Int} (hd : decode cc pc = .ok (.isub, 1)) (k : Wc K G (pc + 1) vs (.int (iI (a - b)) :: st) gs) : Wc K G pc vs (.int (iI b) :: .int (iI a) :: st) gs := by
  intro H locs ls hP hD hS hl
  exact lv_isub C.x C.b hd (by rw [iI_sub]; exact k H locs ls hP hD hS hl)
theorem r_imul (C : Cf K l G cc own ret rm) {a b : Int} (hd : decode cc pc = .ok (.imul, 1)) (k : Wc K G (pc + 1) vs (.int (iI (a * b)) :: st) gs) : Wc K G pc vs (.int (iI b) :: .int (iI a) :: st) gs := by
  intro H locs ls hP hD hS hl
  exact lv_imul C.x C.b hd (by rw [iI_mul]; exact k H locs ls hP hD hS hl)
theorem r_ineg (C : Cf K l G cc own ret rm) {a : Int} (hd : decode cc pc = .ok (.ineg, 1)) (k : Wc K G (pc + 1) vs (.int (iI (-a)) :: st) gs) : Wc K G pc vs (.int (iI a) :: st) gs := by
  intro H locs ls hP hD hS hl
  exact lv_ineg C.x C.b hd (by rw [iI_neg]; exact k H locs ls hP hD hS hl)
theorem r_iand (C : Cf K l G cc own ret rm) {a b : Int} (hd : decode cc pc = .ok (.iand, 1)) (k : Wc K G (pc + 1) vs (.int (iI (zand a b)) :: st) gs) : Wc K G pc vs (.int (iI b) :: .int (iI a) :: st) gs := by
  intro H locs ls hP hD hS hl
  exact lv_iand C.x C.b hd (by rw [iI_and]; exact k H locs ls hP hD hS hl)
theorem r_ior (C : Cf K l G cc own ret rm) {a b : Int} (hd : decode cc pc = .ok (.ior, 1)) (k : Wc K G (pc + 1) vs (.int (iI (zor a b)) :: st) gs) : Wc K G pc vs (.int (iI b) :: .int (iI a) :: st) gs := by
  intro H locs ls hP hD hS hl
  exact lv_ior C.x C.b hd (by rw [iI_or]; exact k H locs ls hP hD hS hl)
theorem r_ixor (C : Cf K l G cc own ret rm) {a b : Int} (hd : decode cc pc = .ok (.ixor, 1)) (k : Wc K G (pc + 1) vs (.int (iI (zxor a b)) :: st) gs) : Wc K G pc vs (.int (iI b) :: .int (iI a) :: st) gs := by
  intro H locs ls hP hD hS hl
  exact lv_ixor C.x C.b hd (by rw [iI_xor]; exact k H locs ls hP hD hS hl)
theorem r_ishl (C : Cf K l G cc own ret rm) {a b : Int} (hd : decode cc pc = .ok (.ishl, 1)) (hb : 0 ≤ b ∧ b < 32) (k : Wc K G (pc + 1) vs (.int (iI (a * zp2 b)) :: st) gs) : Wc K G pc vs (.int (iI b) :: .int (iI a) :: st) gs := by
  intro H locs ls hP hD hS hl
  exact lv_ishl C.x C.b hd (by rw [iI_shl hb]; exact k H locs ls hP hD hS hl)
theorem r_ishr (C : Cf K l G cc own ret rm) {a b : Int} (hd : decode cc pc = .ok (.ishr, 1)) (ha : -2147483648 ≤ a ∧ a < 2147483648) (hb : 0 ≤ b ∧ b < 32) (k : Wc K G (pc + 1) vs (.int (iI (a / zp2 b)) :: st) gs) : Wc K G pc vs (.int (iI b) :: .int (iI a) :: st) gs := by
  intro H locs ls hP hD hS hl
  exact lv_ishr C.x C.b hd (by rw [iI_shr ha hb]; exact k H locs ls hP hD hS hl)
theorem r_idiv (C : Cf K l G cc own ret rm) {a b : Int} (hd : decode cc pc = .ok (.idiv, 1)) (ha : 0 ≤ a ∧ a < 2147483648) (hb : 0 < b ∧ b < 2147483648) (k : Wc K G (pc + 1) vs (.int (iI (a / b)) :: st) gs) : Wc K G pc vs (.int (iI b) :: .int (iI a) :: st) gs := by
  intro H locs ls hP hD hS hl
  exact lv_idiv C.x C.b hd (fun e => by have h1 := congrArg Int32.toInt e; rw [iI_toInt (by omega)] at h1; have h2 : (0 : Int32).toInt = 0 := rfl; omega) (by rw [iI_div ha hb]; exact k H locs ls hP hD hS hl)
theorem r_irem (C : Cf K l G cc own ret rm) {a b : Int} (hd : decode cc pc = .ok (.irem, 1)) (ha : 0 ≤ a ∧ a < 2147483648) (hb : 0 < b ∧ b < 2147483648) (k : Wc K G (pc + 1) vs (.int (iI (a % b)) :: st) gs) : Wc K G pc vs (.int (iI b) :: .int (iI a) :: st) gs := by
  intro H locs ls hP hD hS hl
  exact lv_irem C.x C.b hd (fun e => by have h1 := congrArg Int32.toInt e; rw [iI_toInt (by omega)] at h1; have h2 : (0 : Int32).toInt = 0 := rfl; omega) (by rw [iI_rem ha hb]; exact k H locs ls hP hD hS hl)
theorem r_i2c (C : Cf K l G cc own ret rm) {a : Int} (hd : decode cc pc = .ok (.i2c, 1)) (ha : 0 ≤ a ∧ a < 65536) (k : Wc K G (pc + 1) vs (.int (iI a) :: st) gs) : Wc K G pc vs (.int (iI a) :: st) gs := by
  intro H locs ls hP hD hS hl
  exact lv_i2c C.x C.b hd (by rw [show iI a = nI a.toNat by rw [← iI_nat]; congr 1; omega]; exact (pk_char (nI a.toNat)).trans (by rw [pk_tn (by omega), Nat.mod_eq_of_lt (by omega)])) (k H locs ls hP hD hS hl)
theorem r_dup (C : Cf K l G cc own ret rm) {va : Value} (hd : decode cc pc = .ok (.dup, 1)) (hva : va.category = 1) (k : Wc K G (pc + 1) vs (va :: va :: st) gs) : Wc K G pc vs (va :: st) gs := by
  intro H locs ls hP hD hS hl
  exact lv_dup C.x C.b hd hva (k H locs ls hP hD hS hl)
theorem r_dup2 (C : Cf K l G cc own ret rm) {va vb : Value} (hd : decode cc pc = .ok (.dup2, 1)) (hva : va.category = 1) (hvb : vb.category = 1) (k : Wc K G (pc + 1) vs (va :: vb :: va :: vb :: st) gs) : Wc K G pc vs (va :: vb :: st) gs := by
  intro H locs ls hP hD hS hl
  exact lv_dup2_11 C.x C.b hd hva hvb (k H locs ls hP hD hS hl)
theorem r_pop (C : Cf K l G cc own ret rm) {va : Value} (hd : decode cc pc = .ok (.pop, 1)) (hva : va.category = 1) (k : Wc K G (pc + 1) vs (st) gs) : Wc K G pc vs (va :: st) gs := by
  intro H locs ls hP hD hS hl
  exact lv_pop C.x C.b hd hva (k H locs ls hP hD hS hl)
theorem r_iload_n (C : Cf K l G cc own ret rm) {j : Fin 4} (i : Nat) {x : Int32} (hd : decode cc pc = .ok (.iload_n j, 1)) (hj : (j : Nat) = i) (hv : vs[i]? = some (some (.int x))) (k : Wc K G (pc + 1) vs (.int x :: st) gs) : Wc K G pc vs (st) gs := by
  intro H locs ls hP hD hS hl
  exact lv_iload_n C.x C.b hd hj (hl.2.2.2 i _ hv).2 (k H locs ls hP hD hS hl)
theorem r_iload (C : Cf K l G cc own ret rm) {i : Nat} {x : Int32} (hd : decode cc pc = .ok (.iload i, 2)) (hv : vs[i]? = some (some (.int x))) (k : Wc K G (pc + 2) vs (.int x :: st) gs) : Wc K G pc vs (st) gs := by
  intro H locs ls hP hD hS hl
  exact lv_iload C.x C.b hd (hl.2.2.2 i _ hv).2 (k H locs ls hP hD hS hl)
theorem r_aload_n (C : Cf K l G cc own ret rm) {j : Fin 4} (i : Nat) {x : Nat} (hd : decode cc pc = .ok (.aload_n j, 1)) (hj : (j : Nat) = i) (hv : vs[i]? = some (some (.ref x))) (k : Wc K G (pc + 1) vs (.ref x :: st) gs) : Wc K G pc vs (st) gs := by
  intro H locs ls hP hD hS hl
  exact lv_aload_n C.x C.b hd hj (hl.2.2.2 i _ hv).2 (k H locs ls hP hD hS hl)
theorem r_aload (C : Cf K l G cc own ret rm) {i : Nat} {x : Nat} (hd : decode cc pc = .ok (.aload i, 2)) (hv : vs[i]? = some (some (.ref x))) (k : Wc K G (pc + 2) vs (.ref x :: st) gs) : Wc K G pc vs (st) gs := by
  intro H locs ls hP hD hS hl
  exact lv_aload C.x C.b hd (hl.2.2.2 i _ hv).2 (k H locs ls hP hD hS hl)
/-- the listed locals as the kit has them -/
def lp : Nat → List (Option Value) → List (Nat × Value)
  | _, [] => []
  | i, none :: r => lp (i + 1) r
  | i, some v :: r => (i, v) :: lp (i + 1) r
theorem lp_mem : ∀ {vs : List (Option Value)} {i : Nat} {q : Nat × Value}, q ∈ lp i vs ↔ i ≤ q.1 ∧ vs[q.1 - i]? = some (some q.2)
  | [], i, q => by simp [lp]
  | none :: r, i, q => by
    show q ∈ lp (i + 1) r ↔ _
    rw [lp_mem]
    constructor
    · rintro ⟨h1, h2⟩
      refine ⟨by omega, ?_⟩
      rw [show q.1 - i = (q.1 - (i + 1)) + 1 by omega, List.getElem?_cons_succ]
      exact h2
    · rintro ⟨h1, h2⟩
      by_cases e : q.1 = i
      · rw [e, Nat.sub_self, List.getElem?_cons_zero] at h2
        cases h2
      · rw [show q.1 - i = (q.1 - (i + 1)) + 1 by omega, List.getElem?_cons_succ] at h2
        exact ⟨by omega, h2⟩
  | some v :: r, i, q => by
    show q ∈ (i, v) :: lp (i + 1) r ↔ _
    rw [List.mem_cons, lp_mem]
    constructor
    · rintro (rfl | ⟨h1, h2⟩)
      · refine ⟨Nat.le_refl _, ?_⟩
        show (some v :: r)[i - i]? = _
        rw [Nat.sub_self, List.getElem?_cons_zero]
      · refine ⟨by omega, ?_⟩
        rw [show q.1 - i = (q.1 - (i + 1)) + 1 by omega, List.getElem?_cons_succ]
        exact h2
    · rintro ⟨h1, h2⟩
      by_cases e : q.1 = i
      · rw [e, Nat.sub_self, List.getElem?_cons_zero] at h2
        left
        have := Option.some.inj (Option.some.inj h2)
        exact Prod.ext e this.symm
      · rw [show q.1 - i = (q.1 - (i + 1)) + 1 by omega, List.getElem?_cons_succ] at h2
        exact Or.inr ⟨by omega, h2⟩
theorem LV.has {ls : Array Slot} {nL : Nat} (h : LV ls nL vs) : lv_has ls nL (lp 0 vs) :=
  ⟨h.1, h.2.1, fun q hq => (h.2.2.2 q.1 q.2 (by have := (lp_mem.mp hq).2; rw [Nat.sub_zero] at this; exact this)).2⟩
theorem LV.put {ls ls' : Array Slot} {nL i : Nat} {v : Value} (h : LV ls nL vs) (hv : v.category = 1) (h' : lv_has ls' nL ((i, v) :: (lp 0 vs).filter (fun q => !(q.1 == i) && !(q.1 + 1 == i && q.2.category == 2)))) : LV ls' nL (vs.set i (some v)) := by
  obtain ⟨h1, h2, h3⟩ := h'
  refine ⟨h1, h2, by rw [List.length_set]; exact h.2.2.1, fun j w hj => ?_⟩
  by_cases e : i = j
  · subst e
    rw [List.getElem?_set_self'] at hj
    cases hq : vs[i]? with
    | none => rw [hq] at hj; cases hj
    | some z =>
      rw [hq] at hj
      have e2 : v = w := Option.some.inj (Option.some.inj hj)
      subst e2
      exact ⟨hv, h3 (i, v) List.mem_cons_self⟩
  · rw [List.getElem?_set_ne e] at hj
    have hc := (h.2.2.2 j w hj).1
    refine ⟨hc, h3 (j, w) (List.mem_cons_of_mem _ (List.mem_filter.mpr ⟨lp_mem.mpr ⟨Nat.zero_le _, by rw [Nat.sub_zero]; exact hj⟩, ?_⟩))⟩
    simp [Ne.symm e, hc]
theorem r_istore_n (C : Cf K l G cc own ret rm) {j : Fin 4} (i : Nat) {x : Int32} (hd : decode cc pc = .ok (.istore_n j, 1)) (hj : (j : Nat) = i) (hi : i < vs.length) (k : Wc K G (pc + 1) (vs.set i (some (.int x))) st gs) : Wc K G pc vs (.int x :: st) gs := by
  intro H locs ls hP hD hS hl
  exact lv_istore_n C.x C.b hd hj hl.has (by rw [← hl.2.2.1]; exact hi) rfl (fun ls' h' => k H locs ls' hP hD hS (hl.put rfl h'))
theorem r_istore (C : Cf K l G cc own ret rm) {i : Nat} {x : Int32} (hd : decode cc pc = .ok (.istore i, 2)) (hi : i < vs.length) (k : Wc K G (pc + 2) (vs.set i (some (.int x))) st gs) : Wc K G pc vs (.int x :: st) gs := by
  intro H locs ls hP hD hS hl
  exact lv_istore C.x C.b hd hl.has (by rw [← hl.2.2.1]; exact hi) rfl (fun ls' h' => k H locs ls' hP hD hS (hl.put rfl h'))
theorem r_astore_n (C : Cf K l G cc own ret rm) {j : Fin 4} (i : Nat) {x : Nat} (hd : decode cc pc = .ok (.astore_n j, 1)) (hj : (j : Nat) = i) (hi : i < vs.length) (k : Wc K G (pc + 1) (vs.set i (some (.ref x))) st gs) : Wc K G pc vs (.ref x :: st) gs := by
  intro H locs ls hP hD hS hl
  exact lv_astore_n C.x C.b hd hj hl.has (by rw [← hl.2.2.1]; exact hi) rfl (fun ls' h' => k H locs ls' hP hD hS (hl.put rfl h'))
theorem r_astore (C : Cf K l G cc own ret rm) {i : Nat} {x : Nat} (hd : decode cc pc = .ok (.astore i, 2)) (hi : i < vs.length) (k : Wc K G (pc + 2) (vs.set i (some (.ref x))) st gs) : Wc K G pc vs (.ref x :: st) gs := by
  intro H locs ls hP hD hS hl
  exact lv_astore C.x C.b hd hl.has (by rw [← hl.2.2.1]; exact hi) rfl (fun ls' h' => k H locs ls' hP hD hS (hl.put rfl h'))
theorem r_iinc (C : Cf K l G cc own ret rm) {i : Nat} {n a : Int} (hd : decode cc pc = .ok (.iinc i n, 3)) (hv : vs[i]? = some (some (.int (iI a)))) (k : Wc K G (pc + 3) (vs.set i (some (.int (iI (a + n))))) st gs) : Wc K G pc vs st gs := by
  intro H locs ls hP hD hS hl
  obtain ⟨p, hp⟩ := List.getElem?_of_mem (lp_mem (vs := vs) (i := 0) (q := (i, .int (iI a))) |>.mpr ⟨Nat.zero_le _, by rw [Nat.sub_zero]; exact hv⟩)
  exact lv_iinc C.x C.b (k := p) (v := iI (a + n)) hd hl.has hp (iI_add a n) (by rw [← hl.2.2.1]; exact (List.getElem?_eq_some_iff.mp hv).1) rfl (fun ls' h' => k H locs ls' hP hD hS (hl.put rfl h'))
theorem r_if_eq (C : Cf K l G cc own ret rm) {a off : Int} {tgt : Nat} (hd : decode cc pc = .ok (.ifCond .eq off, 3)) (ht : (pc : Int) + off = (tgt : Int)) (ha : -2147483648 ≤ a ∧ a < 2147483648) (kt : a = 0 → Wc K G tgt vs st gs) (kf : a ≠ 0 → Wc K G (pc + 3) vs st gs) : Wc K G pc vs (.int (iI a) :: st) gs := by
  intro H locs ls hP hD hS hl
  exact lv_if_eq C.x C.b hd ht (fun h => kt ((iI_eq ha (show -2147483648 ≤ (0:Int) ∧ (0:Int) < 2147483648 by decide)).mp h) H locs ls hP hD hS hl) (fun h => kf (fun q => h ((iI_eq ha (show -2147483648 ≤ (0:Int) ∧ (0:Int) < 2147483648 by decide)).mpr q)) H locs ls hP hD hS hl)
theorem r_icmp_eq (C : Cf K l G cc own ret rm) {a b off : Int} {tgt : Nat} (hd : decode cc pc = .ok (.if_icmp .eq off, 3)) (ht : (pc : Int) + off = (tgt : Int)) (ha : -2147483648 ≤ a ∧ a < 2147483648) (hb : -2147483648 ≤ b ∧ b < 2147483648) (kt : a = b → Wc K G tgt vs st gs) (kf : a ≠ b → Wc K G (pc + 3) vs st gs) : Wc K G pc vs (.int (iI b) :: .int (iI a) :: st) gs := by
  intro H locs ls hP hD hS hl
  exact lv_icmp_eq C.x C.b hd ht (fun h => kt ((iI_eq ha hb).mp h) H locs ls hP hD hS hl) (fun h => kf (fun q => h ((iI_eq ha hb).mpr q)) H locs ls hP hD hS hl)
theorem r_if_ne (C : Cf K l G cc own ret rm) {a off : Int} {tgt : Nat} (hd : decode cc pc = .ok (.ifCond .ne off, 3)) (ht : (pc : Int) + off = (tgt : Int)) (ha : -2147483648 ≤ a ∧ a < 2147483648) (kt : a ≠ 0 → Wc K G tgt vs st gs) (kf : a = 0 → Wc K G (pc + 3) vs st gs) : Wc K G pc vs (.int (iI a) :: st) gs := by
  intro H locs ls hP hD hS hl
  exact lv_if_ne C.x C.b hd ht (fun h => kt (fun q => h ((iI_eq ha (show -2147483648 ≤ (0:Int) ∧ (0:Int) < 2147483648 by decide)).mpr q)) H locs ls hP hD hS hl) (fun h => kf ((iI_eq ha (show -2147483648 ≤ (0:Int) ∧ (0:Int) < 2147483648 by decide)).mp h) H locs ls hP hD hS hl)
theorem r_icmp_ne (C : Cf K l G cc own ret rm) {a b off : Int} {tgt : Nat} (hd : decode cc pc = .ok (.if_icmp .ne off, 3)) (ht : (pc : Int) + off = (tgt : Int)) (ha : -2147483648 ≤ a ∧ a < 2147483648) (hb : -2147483648 ≤ b ∧ b < 2147483648) (kt : a ≠ b → Wc K G tgt vs st gs) (kf : a = b → Wc K G (pc + 3) vs st gs) : Wc K G pc vs (.int (iI b) :: .int (iI a) :: st) gs := by
  intro H locs ls hP hD hS hl
  exact lv_icmp_ne C.x C.b hd ht (fun h => kt (fun q => h ((iI_eq ha hb).mpr q)) H locs ls hP hD hS hl) (fun h => kf ((iI_eq ha hb).mp h) H locs ls hP hD hS hl)
theorem r_if_lt (C : Cf K l G cc own ret rm) {a off : Int} {tgt : Nat} (hd : decode cc pc = .ok (.ifCond .lt off, 3)) (ht : (pc : Int) + off = (tgt : Int)) (ha : -2147483648 ≤ a ∧ a < 2147483648) (kt : a < 0 → Wc K G tgt vs st gs) (kf : 0 ≤ a → Wc K G (pc + 3) vs st gs) : Wc K G pc vs (.int (iI a) :: st) gs := by
  intro H locs ls hP hD hS hl
  exact lv_if_lt C.x C.b hd ht (fun h => kt ((iI_lt ha (show -2147483648 ≤ (0:Int) ∧ (0:Int) < 2147483648 by decide)).mp h) H locs ls hP hD hS hl) (fun h => kf (Int.not_lt.mp (fun q => h ((iI_lt ha (show -2147483648 ≤ (0:Int) ∧ (0:Int) < 2147483648 by decide)).mpr q))) H locs ls hP hD hS hl)
theorem r_icmp_lt (C : Cf K l G cc own ret rm) {a b off : Int} {tgt : Nat} (hd : decode cc pc = .ok (.if_icmp .lt off, 3)) (ht : (pc : Int) + off = (tgt : Int)) (ha : -2147483648 ≤ a ∧ a < 2147483648) (hb : -2147483648 ≤ b ∧ b < 2147483648) (kt : a < b → Wc K G tgt vs st gs) (kf : b ≤ a → Wc K G (pc + 3) vs st gs) : Wc K G pc vs (.int (iI b) :: .int (iI a) :: st) gs := by
  intro H locs ls hP hD hS hl
  exact lv_icmp_lt C.x C.b hd ht (fun h => kt ((iI_lt ha hb).mp h) H locs ls hP hD hS hl) (fun h => kf (Int.not_lt.mp (fun q => h ((iI_lt ha hb).mpr q))) H locs ls hP hD hS hl)
theorem r_if_ge (C : Cf K l G cc own ret rm) {a off : Int} {tgt : Nat} (hd : decode cc pc = .ok (.ifCond .ge off, 3)) (ht : (pc : Int) + off = (tgt : Int)) (ha : -2147483648 ≤ a ∧ a < 2147483648) (kt : 0 ≤ a → Wc K G tgt vs st gs) (kf : a < 0 → Wc K G (pc + 3) vs st gs) : Wc K G pc vs (.int (iI a) :: st) gs := by
  intro H locs ls hP hD hS hl
  exact lv_if_ge C.x C.b hd ht (fun h => kt ((iI_le (show -2147483648 ≤ (0:Int) ∧ (0:Int) < 2147483648 by decide) ha).mp h) H locs ls hP hD hS hl) (fun h => kf (Int.not_le.mp (fun q => h ((iI_le (show -2147483648 ≤ (0:Int) ∧ (0:Int) < 2147483648 by decide) ha).mpr q))) H locs ls hP hD hS hl)
theorem r_icmp_ge (C : Cf K l G cc own ret rm) {a b off : Int} {tgt : Nat} (hd : decode cc pc = .ok (.if_icmp .ge off, 3)) (ht : (pc : Int) + off = (tgt : Int)) (ha : -2147483648 ≤ a ∧ a < 2147483648) (hb : -2147483648 ≤ b ∧ b < 2147483648) (kt : b ≤ a → Wc K G tgt vs st gs) (kf : a < b → Wc K G (pc + 3) vs st gs) : Wc K G pc vs (.int (iI b) :: .int (iI a) :: st) gs := by
  intro H locs ls hP hD hS hl
  exact lv_icmp_ge C.x C.b hd ht (fun h => kt ((iI_le hb ha).mp h) H locs ls hP hD hS hl) (fun h => kf (Int.not_le.mp (fun q => h ((iI_le hb ha).mpr q))) H locs ls hP hD hS hl)
theorem r_if_gt (C : Cf K l G cc own ret rm) {a off : Int} {tgt : Nat} (hd : decode cc pc = .ok (.ifCond .gt off, 3)) (ht : (pc : Int) + off = (tgt : Int)) (ha : -2147483648 ≤ a ∧ a < 2147483648) (kt : 0 < a → Wc K G tgt vs st gs) (kf : a ≤ 0 → Wc K G (pc + 3) vs st gs) : Wc K G pc vs (.int (iI a) :: st) gs := by
  intro H locs ls hP hD hS hl
  exact lv_if_gt C.x C.b hd ht (fun h => kt ((iI_lt (show -2147483648 ≤ (0:Int) ∧ (0:Int) < 2147483648 by decide) ha).mp h) H locs ls hP hD hS hl) (fun h => kf (Int.not_lt.mp (fun q => h ((iI_lt (show -2147483648 ≤ (0:Int) ∧ (0:Int) < 2147483648 by decide) ha).mpr q))) H locs ls hP hD hS hl)
theorem r_icmp_gt (C : Cf K l G cc own ret rm) {a b off : Int} {tgt : Nat} (hd : decode cc pc = .ok (.if_icmp .gt off, 3)) (ht : (pc : Int) + off = (tgt : Int)) (ha : -2147483648 ≤ a ∧ a < 2147483648) (hb : -2147483648 ≤ b ∧ b < 2147483648) (kt : b < a → Wc K G tgt vs st gs) (kf : a ≤ b → Wc K G (pc + 3) vs st gs) : Wc K G pc vs (.int (iI b) :: .int (iI a) :: st) gs := by
  intro H locs ls hP hD hS hl
  exact lv_icmp_gt C.x C.b hd ht (fun h => kt ((iI_lt hb ha).mp h) H locs ls hP hD hS hl) (fun h => kf (Int.not_lt.mp (fun q => h ((iI_lt hb ha).mpr q))) H locs ls hP hD hS hl)
theorem r_if_le (C : Cf K l G cc own ret rm) {a off : Int} {tgt : Nat} (hd : decode cc pc = .ok (.ifCond .le off, 3)) (ht : (pc : Int) + off = (tgt : Int)) (ha : -2147483648 ≤ a ∧ a < 2147483648) (kt : a ≤ 0 → Wc K G tgt vs st gs) (kf : 0 < a → Wc K G (pc + 3) vs st gs) : Wc K G pc vs (.int (iI a) :: st) gs := by
  intro H locs ls hP hD hS hl
  exact lv_if_le C.x C.b hd ht (fun h => kt ((iI_le ha (show -2147483648 ≤ (0:Int) ∧ (0:Int) < 2147483648 by decide)).mp h) H locs ls hP hD hS hl) (fun h => kf (Int.not_le.mp (fun q => h ((iI_le ha (show -2147483648 ≤ (0:Int) ∧ (0:Int) < 2147483648 by decide)).mpr q))) H locs ls hP hD hS hl)
theorem r_icmp_le (C : Cf K l G cc own ret rm) {a b off : Int} {tgt : Nat} (hd : decode cc pc = .ok (.if_icmp .le off, 3)) (ht : (pc : Int) + off = (tgt : Int)) (ha : -2147483648 ≤ a ∧ a < 2147483648) (hb : -2147483648 ≤ b ∧ b < 2147483648) (kt : a ≤ b → Wc K G tgt vs st gs) (kf : b < a → Wc K G (pc + 3) vs st gs) : Wc K G pc vs (.int (iI b) :: .int (iI a) :: st) gs := by
  intro H locs ls hP hD hS hl
  exact lv_icmp_le C.x C.b hd ht (fun h => kt ((iI_le ha hb).mp h) H locs ls hP hD hS hl) (fun h => kf (Int.not_le.mp (fun q => h ((iI_le ha hb).mpr q))) H locs ls hP hD hS hl)
theorem r_ifb_eq (C : Cf K l G cc own ret rm) {p : Prop} [Decidable p] {off : Int} {tgt : Nat} (hd : decode cc pc = .ok (.ifCond .eq off, 3)) (ht : (pc : Int) + off = (tgt : Int)) (kt : ¬ p → Wc K G tgt vs st gs) (kf : p → Wc K G (pc + 3) vs st gs) : Wc K G pc vs (.int (iI (zb p)) :: st) gs :=
  r_if_eq C hd ht (by have := zb_r p; omega) (fun h => kt (zb_eq0.mp h)) (fun h => kf (Classical.not_not.mp (fun q => h (zb_eq0.mpr q))))
theorem r_ifb_ne (C : Cf K l G cc own ret rm) {p : Prop} [Decidable p] {off : Int} {tgt : Nat} (hd : decode cc pc = .ok (.ifCond .ne off, 3)) (ht : (pc : Int) + off = (tgt : Int)) (kt : p → Wc K G tgt vs st gs) (kf : ¬ p → Wc K G (pc + 3) vs st gs) : Wc K G pc vs (.int (iI (zb p)) :: st) gs :=
  r_if_ne C hd ht (by have := zb_r p; omega) (fun h => kt (Classical.not_not.mp (fun q => h (zb_eq0.mpr q)))) (fun h => kf (zb_eq0.mp h))
theorem r_goto (C : Cf K l G cc own ret rm) {off : Int} {tgt : Nat} (hd : decode cc pc = .ok (.goto off, 3)) (ht : (pc : Int) + off = (tgt : Int)) (k : Wc K G tgt vs st gs) : Wc K G pc vs st gs := by
  intro H locs ls hP hD hS hl
  exact lv_goto C.x C.b hd ht (k H locs ls hP hD hS hl)
theorem r_tblOut (C : Cf K l G cc own ret rm) {a dflt lo hi : Int} {offs : Array Int} {len tgt : Nat} (hd : decode cc pc = .ok (.tableswitch dflt lo hi offs, len)) (ha : -2147483648 ≤ a ∧ a < 2147483648) (h : a < lo ∨ hi < a) (ht : (pc : Int) + dflt = (tgt : Int)) (k : Wc K G tgt vs st gs) : Wc K G pc vs (.int (iI a) :: st) gs := by
  intro H locs ls hP hD hS hl
  exact lv_tableOut C.x C.b hd (by rw [iI_toInt ha]; exact h) ht (k H locs ls hP hD hS hl)
theorem r_tblIn (C : Cf K l G cc own ret rm) {a dflt lo hi off : Int} {offs : Array Int} {len tgt : Nat} (n : Int) (hd : decode cc pc = .ok (.tableswitch dflt lo hi offs, len)) (ha : a = n) (hn : -2147483648 ≤ n ∧ n < 2147483648) (h1 : ¬ n < lo) (h2 : ¬ hi < n) (ho : offs[(n - lo).toNat]? = some off) (ht : (pc : Int) + off = (tgt : Int)) (k : Wc K G tgt vs st gs) : Wc K G pc vs (.int (iI a) :: st) gs := by
  subst ha
  intro H locs ls hP hD hS hl
  exact lv_tableIn C.x C.b hd (by rw [iI_toInt hn]; exact h1) (by rw [iI_toInt hn]; exact h2) (by rw [iI_toInt hn]; exact ho) ht (k H locs ls hP hD hS hl)
theorem r_look (C : Cf K l G cc own ret rm) {a dflt off : Int} {ps : Array (Int × Int)} {len tgt : Nat} (hd : decode cc pc = .ok (.lookupswitch dflt ps, len)) (ha : -2147483648 ≤ a ∧ a < 2147483648) (hp : (ps.toList.zip (ps.toList.drop 1)).all (fun (a, next) => a.1 < next.1) = true) (ho : Op.lookupswitch.offset ps.toList dflt a = off) (ht : (pc : Int) + off = (tgt : Int)) (k : Wc K G tgt vs st gs) : Wc K G pc vs (.int (iI a) :: st) gs := by
  intro H locs ls hP hD hS hl
  exact lv_lookup C.x C.b hd hp (by rw [iI_toInt ha]; exact ho) ht (k H locs ls hP hD hS hl)
theorem z_osw {a k o d : Int} {r : List (Int × Int)} (h : ¬ a = k) : Op.lookupswitch.offset ((k, o) :: r) d a = Op.lookupswitch.offset r d a := by
  rw [Op.lookupswitch.offset_cons, if_neg]
  exact fun q => h q.symm
theorem z_osy {k o d : Int} {r : List (Int × Int)} : Op.lookupswitch.offset ((k, o) :: r) d k = o := by
  rw [Op.lookupswitch.offset_cons, if_pos rfl]
/-- a field is read: group i, place k, field f -/
theorem r_get (C : Cf K l G cc own ret rm) {C0 ref : String} {T : u_T} {N ci idx a : Nat} {g : va_W} {fs : List Value} {v : Value} (i q0 f : Nat) (hd : decode cc pc = .ok (.getfield idx, 3)) (hin : ∀ w ∈ u_ws C0 T N, w ∈ lw_g) (hg : gs[i]? = some g) (he : g[q0]? = some (a, .inr (ci, fs))) (hc : vwCl[ci]? = some (C0, T, N)) (hf : f < N) (hw : Cond.fieldLink own idx ref (T f).2.1 (T f).2.2.1 ∈ lw_g) (hs : (T f).1 = ref) (hv : fs[f]? = some v) (k : Wc K G (pc + 3) vs (v :: st) gs) : Wc K G pc vs (.ref a :: st) gs := by
  intro H locs ls hP hD hS hl
  exact va_get (T := T) C.x C.b C.t hin C.o C.k hP (offG gs i + q0) (off_get hg he) hc f hf (C.t _ hw) (fun x hx => by rw [← hs]; exact hx) hv hd (k H locs ls hP hD hS hl)
/-- a field is written -/
theorem r_put (C : Cf K l G cc own ret rm) {C0 ref : String} {T : u_T} {N ci idx a : Nat} {g g' : va_W} {gs' : List va_W} {fs : List Value} {v : Value} {ty : FieldType} {ty0 : Nat → FieldType} (i q0 f : Nat) (hd : decode cc pc = .ok (.putfield idx, 3)) (hin : ∀ w ∈ u_ws C0 T N, w ∈ lw_g) (hty : ∀ k, k < N → parseFieldDescriptor (T k).2.2.1 = some (ty0 k)) (hnm : ∀ a, a < N → ∀ b, b < N → a ≠ b → (T a).2.1 ≠ (T b).2.1) (hg : gs[i]? = some g) (he : g[q0]? = some (a, .inr (ci, fs))) (hc : vwCl[ci]? = some (C0, T, N)) (hf : f < N) (hw : Cond.fieldLink own idx ref (T f).2.1 (T f).2.2.1 ∈ lw_g) (hs : (T f).1 = ref) (hfin : (T f).2.2.2 = false) (hpd : parseFieldDescriptor (T f).2.2.1 = some ty) (hn : narrow ty v = v) (hfit : fits ty v = true) (hlen : f < fs.length)
    (hg' : g.set q0 (a, .inr (ci, fs.set f v)) = g') (hgs : gs.set i g' = gs') (k : Wc K G (pc + 3) vs st gs') : Wc K G pc vs (v :: .ref a :: st) gs := by
  intro H locs ls hP hD hS hl
  subst hg' hgs
  have hq := (List.getElem?_eq_some_iff.mp he).1
  refine va_put (T := T) C.x C.b C.t hin ty0 hty hnm C.o C.k hP hD.va hS (offG gs i + q0) (off_get hg he) hc f hf (C.t _ hw) (fun x hx => by rw [← hs]; exact hx) hfin hpd hn hfit hlen hd (fun H1 locs1 hP1 hD1 hS1 => ?_)
  rw [off_set hg hq] at hP1
  have e : shp (gs.set i (g.set q0 (a, .inr (ci, fs.set f v)))) = shp gs := by
    refine shp_set hg ?_
    rw [List.map_set]
    apply List.ext_getElem?
    intro j
    by_cases hj : q0 = j
    · subst hj
      rw [List.getElem?_set_self', List.getElem?_map, he]
      rfl
    · rw [List.getElem?_set_ne hj]
  exact k H1 locs1 ls hP1 (hD.same e) hS1 hl
end
/-! arrays of ints: cell contents given over the integers -/
def zup (F : Int → Int) (z v : Int) : Int → Int := fun j => if j = z then v else F j
theorem zup_s (F : Int → Int) (z v : Int) : zup F z v z = v := if_pos rfl
theorem zup_n {F : Int → Int} {z v j : Int} (h : j ≠ z) : zup F z v j = F j := if_neg h
def ia (cI : ClassId) (n : Nat) (F : Int → Int) : va_E := .inl (cI, n, .inl (fun j => iI (F (j : Int))))
def qa (cD : ClassId) (n : Nat) (F : Nat → Option Nat) : va_E := .inl (cD, n, .inr (.inr (.inr (.inr F))))
section
variable {K : KT} {l : Launch} {G : GT} {cc : ByteArray} {own : String} {ret : Option FieldType} {rm : Room} {pc : Nat} {vs : List (Option Value)} {st : List Value} {gs : List va_W}
theorem r_iaload (C : Cf K l G cc own ret rm) {a n : Nat} {z : Int} {g : va_W} {F : Int → Int} (i q0 : Nat) (hd : decode cc pc = .ok (.iaload, 1)) (hg : gs[i]? = some g) (he : g[q0]? = some (a, ia G.2.1 n F)) (hn : n < 2147483648) (hz : 0 ≤ z ∧ z < n) (k : Wc K G (pc + 1) vs (.int (iI (F z)) :: st) gs) : Wc K G pc vs (.int (iI z) :: .ref a :: st) gs := by
  intro H locs ls hP hD hS hl
  refine va_iald C.x C.b C.k hP (offG gs i + q0) 0 (off_get hg he) rfl (iI_in hz hn) hd ?_
  rw [iI_clamp (by omega)]
  rw [show ((z.toNat : Nat) : Int) = z by omega]
  exact k H locs ls hP hD hS hl
theorem r_iastore (C : Cf K l G cc own ret rm) {a n : Nat} {z v : Int} {g g' : va_W} {gs' : List va_W} {F : Int → Int} (i q0 : Nat) (hd : decode cc pc = .ok (.iastore, 1)) (hg : gs[i]? = some g) (he : g[q0]? = some (a, ia G.2.1 n F)) (hn : n < 2147483648) (hz : 0 ≤ z ∧ z < n) (hg' : g.set q0 (a, ia G.2.1 n (zup F z v)) = g') (hgs : gs.set i g' = gs') (k : Wc K G (pc + 1) vs st gs') : Wc K G pc vs (.int (iI v) :: .int (iI z) :: .ref a :: st) gs := by
  intro H locs ls hP hD hS hl
  subst hg' hgs
  have hq := (List.getElem?_eq_some_iff.mp he).1
  refine va_iast C.x C.b C.k hP hD.va hS (offG gs i + q0) 0 (off_get hg he) rfl (iI_in hz hn) hd (fun H1 locs1 hP1 hD1 hS1 => ?_)
  have e0 : (.inl (G.2.1, n, .inl (upd (fun j => iI (F (j : Int))) (iI z).toNatClampNeg (iI v))) : va_E) = ia G.2.1 n (zup F z v) := by
    unfold ia
    rw [iI_clamp (by omega)]
    have : upd (fun j => iI (F (j : Int))) z.toNat (iI v) = fun j : Nat => iI (zup F z v (j : Int)) := by
      funext j
      unfold upd zup
      by_cases hj : j = z.toNat
      · rw [if_pos hj, if_pos (by omega)]
      · rw [if_neg hj, if_neg (by omega)]
    rw [this]
  rw [e0, off_set hg hq] at hP1
  have e : shp (gs.set i (g.set q0 (a, ia G.2.1 n (zup F z v)))) = shp gs := by
    refine shp_set hg ?_
    rw [List.map_set]
    apply List.ext_getElem?
    intro j
    by_cases hj : q0 = j
    · subst hj
      rw [List.getElem?_set_self', List.getElem?_map, he]
      rfl
    · rw [List.getElem?_set_ne hj]
  exact k H1 locs1 ls hP1 (hD.same e) hS1 hl
theorem r_aaload (C : Cf K l G cc own ret rm) {a n q : Nat} {z : Int} {g : va_W} {F : Nat → Option Nat} (i q0 : Nat) (hd : decode cc pc = .ok (.aaload, 1)) (hg : gs[i]? = some g) (he : g[q0]? = some (a, qa G.2.2.1 n F)) (hn : n < 2147483648) (hz : 0 ≤ z ∧ z < n) (hq : F z.toNat = some q) (k : Wc K G (pc + 1) vs (.ref q :: st) gs) : Wc K G pc vs (.int (iI z) :: .ref a :: st) gs := by
  intro H locs ls hP hD hS hl
  refine va_aldq C.x C.b C.k hP (offG gs i + q0) 1 (off_get hg he) rfl (iI_in hz hn) hd ?_
  rw [iI_clamp (by omega), hq]
  exact k H locs ls hP hD hS hl
theorem r_ilen (C : Cf K l G cc own ret rm) {a n : Nat} {g : va_W} {F : Int → Int} (i q0 : Nat) (hd : decode cc pc = .ok (.arraylength, 1)) (hg : gs[i]? = some g) (he : g[q0]? = some (a, ia G.2.1 n F)) (k : Wc K G (pc + 1) vs (.int (iI (n : Int)) :: st) gs) : Wc K G pc vs (.ref a :: st) gs := by
  intro H locs ls hP hD hS hl
  exact va_alen C.x C.b C.k hP (offG gs i + q0) 0 (off_get hg he) rfl (v := iI (n : Int)) (iI_nat n).symm hd (k H locs ls hP hD hS hl)
theorem r_qlen (C : Cf K l G cc own ret rm) {a n : Nat} {g : va_W} {F : Nat → Option Nat} (i q0 : Nat) (hd : decode cc pc = .ok (.arraylength, 1)) (hg : gs[i]? = some g) (he : g[q0]? = some (a, qa G.2.2.1 n F)) (k : Wc K G (pc + 1) vs (.int (iI (n : Int)) :: st) gs) : Wc K G pc vs (.ref a :: st) gs := by
  intro H locs ls hP hD hS hl
  exact va_alen C.x C.b C.k hP (offG gs i + q0) 1 (off_get hg he) rfl (v := iI (n : Int)) (iI_nat n).symm hd (k H locs ls hP hD hS hl)
/-! ends -/
theorem Rq.end {gs0 : List va_W} {Post : Option Value → List va_W → Prop} (hq : Rq K G gs0 Post) {v : Option Value} (h : Post v gs) (hs : shp gs = shp gs0) {H : Heap} {locs : List Loc} (hP : PG G.1 gs H) (hS : va_S (kA K) (ks K).heap H locs) : (∀ t : State, t.heap = H → (ks K).WarmedH t.vm → Qcn G gs0 Post (ka K) (ks K) (.returned v) t) ∧ ∀ q ∈ locs, Ad gs0 q.base := by
  obtain ⟨-, hA, -, -⟩ := hq
  rw [hA] at hS
  exact ⟨fun t ht _ => ⟨v, gs, rfl, h, hs, by rw [ht]; exact hP, hS.F ht⟩, hS.2.2⟩
theorem r_iret (C : Cf K l G cc own (some .int) rm) {gs0 : List va_W} {Post : Option Value → List va_W → Prop} (hq : Rq K G gs0 Post) {a : Int} (hd : decode cc pc = .ok (.ireturn, 1)) (hs : shp gs = shp gs0) (h : Post (some (.int (iI a))) gs) : Wc K G pc vs [.int (iI a)] gs := by
  intro H locs ls hP hD hS hl
  obtain ⟨h1, h2⟩ := hq.end h hs hP hS
  rw [hq.1, hq.2.2.1, hq.2.2.2]
  exact W.iret C.x C.b C.r h1 h2 hd C.lk
theorem r_zret (C : Cf K l G cc own (some .boolean) rm) {gs0 : List va_W} {Post : Option Value → List va_W → Prop} (hq : Rq K G gs0 Post) {a : Int} (hd : decode cc pc = .ok (.ireturn, 1)) (ha : a = 0 ∨ a = 1) (hs : shp gs = shp gs0) (h : Post (some (.int (iI a))) gs) : Wc K G pc vs [.int (iI a)] gs := by
  intro H locs ls hP hD hS hl
  obtain ⟨h1, h2⟩ := hq.end h hs hP hS
  rw [hq.1, hq.2.2.1, hq.2.2.2]
  exact W.zret C.x C.b C.r (by rcases ha with rfl | rfl <;> rfl) h1 h2 hd C.lk
theorem r_vret (C : Cf K l G cc own none rm) {gs0 : List va_W} {Post : Option Value → List va_W → Prop} (hq : Rq K G gs0 Post) (hd : decode cc pc = .ok (.return_, 1)) (hs : shp gs = shp gs0) (h : Post none gs) : Wc K G pc vs [] gs := by
  intro H locs ls hP hD hS hl
  obtain ⟨h1, h2⟩ := hq.end h hs hP hS
  rw [hq.1, hq.2.2.1, hq.2.2.2]
  exact W.vret C.x C.b C.r h1 h2 hd C.lk
theorem r_aret (C : Cf K l G cc own ret rm) {gs0 : List va_W} {Post : Option Value → List va_W → Prop} (hq : Rq K G gs0 Post) {a : Nat} {n : String} (hr : ret = some (.object n)) (hd : decode cc pc = .ok (.areturn, 1)) (hs : shp gs = shp gs0) (h : Post (some (.ref a)) gs) : Wc K G pc vs [.ref a] gs := by
  intro H locs ls hP hD hS hl
  obtain ⟨h1, h2⟩ := hq.end h hs hP hS
  rw [hq.1, hq.2.2.1, hq.2.2.2]
  exact W.aret C.x C.b (C.r.trans hr) (Or.inl ⟨n, rfl⟩) (Or.inr ⟨a, rfl⟩) h1 h2 hd C.lk
end
/-! a contract's proof begins -/
theorem Cn_in {l : Launch} {y : MethodName} {bytes : ByteArray} {maxL : Nat} {ret : Option FieldType} {rm : Room} {G : GT} {av : List Value} {gs : List va_W} {Post : Option Value → List va_W → Prop} (own : String) (vs : List (Option Value)) (hy : plainName y.cls = true) (ho : y.cls = own) (hc : av.all (fun v => v.category == 1) = true) (hvs : av.map some ++ List.replicate (maxL - av.length) none = vs) (hm : av.length ≤ maxL) (body : ∀ K : KT, Cf K l G bytes own ret rm → Rq K G gs Post → Wc K G 0 vs [] gs) : Cn l y bytes maxL ret rm G av gs Post := by
  refine Met.ofW (cc := bytes) (maxL := maxL) (ret := ret) hy rfl ?_
  intro p e s m args below meth c s₁ B hml hv
  obtain ⟨rfl, hP, hN, hK, hZ⟩ := hv
  have hcat : ∀ v ∈ av, v.category = 1 := fun v h => by simpa using List.all_eq_true.mp hc v h
  have hsl : lg_sl av = av.map Slot.val := by
    clear hP hZ hvs hm body B
    induction av with
    | nil => rfl
    | cons v r ih =>
      show (if v.category = 2 then [Slot.val v, Slot.second] else [Slot.val v]) ++ lg_sl r = _
      rw [if_neg (by rw [hcat v List.mem_cons_self]; decide), ih (List.all_eq_true.mpr (fun w hw => by simpa using hcat w (List.mem_cons_of_mem _ hw))) (fun w hw => hcat w (List.mem_cons_of_mem _ hw))]
      rfl
  have hlen : (lg_sl av).length ≤ maxL := by rw [hsl, List.length_map]; exact hm
  have hle := lv_entry av hlen
  rw [lg_entry_eq]
  have hts := atoms_spec (ws := wU y bytes maxL ret) B.pre
  have hLV : LV ((lg_sl av ++ List.replicate (maxL - (lg_sl av).length) Slot.unset).toArray) maxL vs := by
    refine ⟨hle.1, hle.2.1, ?_, fun i v hi => ?_⟩
    · rw [← hvs, List.length_append, List.length_map, List.length_replicate]
      omega
    · rw [← hvs] at hi
      by_cases h : i < av.length
      · rw [List.getElem?_append_left (by rw [List.length_map]; exact h), List.getElem?_map] at hi
        cases hq : av[i]? with
        | none => rw [hq] at hi; cases hi
        | some w =>
          rw [hq] at hi
          have e : w = v := Option.some.inj (Option.some.inj hi)
          subst e
          refine ⟨hcat w (List.mem_of_getElem? hq), ?_⟩
          rw [List.getElem?_toArray, hsl, List.getElem?_append_left (by rw [List.length_map]; exact h), List.getElem?_map, hq]
          rfl
      · rw [List.getElem?_append_right (by rw [List.length_map]; omega), List.getElem?_replicate] at hi
        split at hi <;> cases hi
  refine body (p, l, e, (headSpec (wU y bytes maxL ret) rm).room, s, m, av.toArray, below, meth, c, 0, 0, MQ below (Qcn G gs Post) av.toArray s 0 0 (Ad gs), Ad gs, maxL) ⟨B.exec, B.bytes, B.returns, B.notSynchronized, hml, ?_, fun w hw => hts w (List.mem_cons_of_mem _ hw), hK, hZ, rfl, rfl, Nat.zero_le _, Nat.zero_le _⟩ ⟨rfl, rfl, rfl, rfl⟩ _ _ _ hP ⟨hN, fun q hq => hq⟩ va_S.rf hLV
  rw [← ho]
  exact findClass_of_methodNamed B.named
end
section
/-! calls over Wc -/
section
variable {K : KT} {l : Launch} {G : GT} {cc : ByteArray} {own : String} {ret : Option FieldType} {rm : Room} {pc : Nat} {vs : List (Option Value)} {st0 rest : List Value} {gs gsc : List va_W}
theorem sub_mem {is : List Nat} (h : is.map (fun i => gs[i]?) = gsc.map some) {g : va_W} (hg : g ∈ gsc) : ∃ i, i ∈ is ∧ gs[i]? = some g := by
  have h1 : some g ∈ gsc.map some := List.mem_map.mpr ⟨g, hg, rfl⟩
  rw [← h] at h1
  obtain ⟨i, hi, e⟩ := List.mem_map.mp h1
  exact ⟨i, hi, e⟩
theorem sub_Ad {is : List Nat} {A : Nat → Prop} (h : is.map (fun i => gs[i]?) = gsc.map some) (hD : DG A gs) : ∀ q, Ad gsc q → A q := by
  intro q hq
  obtain ⟨as, h1, h2⟩ := List.mem_flatten.mp hq
  obtain ⟨g, hg, rfl⟩ := List.mem_map.mp h1
  obtain ⟨i, -, hi⟩ := sub_mem h hg
  exact hD.2 q (List.mem_flatten.mpr ⟨_, List.mem_map.mpr ⟨g, List.mem_of_getElem? hi, rfl⟩, h2⟩)
theorem sub_nd : ∀ {is : List Nat} {gc : List va_W} {A : Nat → Prop}, is.map (fun i => gs[i]?) = gc.map some → is.Nodup → DG A gs → (shp gc).flatten.Nodup
  | [], [], _, _, _, _ => List.nodup_nil
  | [], _ :: _, _, h, _, _ => by cases h
  | _ :: _, [], _, h, _, _ => by cases h
  | i :: is, g :: gc, A, h, hn, hD => by
    have h1 : gs[i]? = some g := (List.cons.inj h).1
    have h2 : is.map (fun i => gs[i]?) = gc.map some := (List.cons.inj h).2
    have hn1 := List.nodup_cons.mp hn
    show (g.map Prod.fst ++ (shp gc).flatten).Nodup
    refine List.nodup_append.mpr ⟨?_, sub_nd h2 hn1.2 hD, fun a ha b hb e => ?_⟩
    · exact (List.pairwise_flatten.mp hD.1).1 _ (List.mem_map.mpr ⟨g, List.mem_of_getElem? h1, rfl⟩)
    · subst e
      obtain ⟨as, q1, q2⟩ := List.mem_flatten.mp hb
      obtain ⟨g2, hg2, rfl⟩ := List.mem_map.mp q1
      obtain ⟨j, hj, hj2⟩ := sub_mem h2 hg2
      exact hD.apart h1 hj2 (fun e => hn1.1 (by rw [e]; exact hj)) ha q2
theorem PG.sub {D : va_G} {is : List Nat} {H : Heap} (h : is.map (fun i => gs[i]?) = gsc.map some) (hP : PG D gs H) : PG D gsc H := by
  rw [PG.mem] at hP ⊢
  intro g hg
  obtain ⟨i, -, hi⟩ := sub_mem h hg
  exact hP g (List.mem_of_getElem? hi)
/-- what the callee asks, out of what the caller has -/
theorem pre_sub (C : Cf K l G cc own ret rm) {av : List Value} {is : List Nat} (h : is.map (fun i => gs[i]?) = gsc.map some) (hn : is.Nodup) {H : Heap} {locs : List Loc} (hP : PG G.1 gs H) (hD : DG (kA K) gs) (hS : va_S (kA K) (ks K).heap H locs) : FrameBlind (Pcn G av gsc) ∧ ∀ U : State, U.heap = H → (ks K).WarmedH U.vm → Pcn G av gsc av.toArray U := by
  refine ⟨fun a U g mk q => ⟨q.1, q.2.1, q.2.2.1, va_K.moved (u := U) (U := U.calling g mk a) (Vm.Alike.refl U.vm) q.2.2.2.1, SF.calling g mk a q.2.2.2.2⟩, fun U hU hW => ⟨rfl, by rw [hU]; exact hP.sub h, sub_nd h hn hD, va_K.moved hW.alike C.k, ?_⟩⟩
  rw [hU]
  exact ((C.z.kept hS.2.1).narrow (sub_Ad h hD)).warm hW
theorem call_core {is : List Nat} {Post : Option Value → List va_W → Prop} {a : Array Value} (hsub : is.map (fun i => gs[i]?) = gsc.map some) (hn : is.Nodup)
    (hr : ∀ (H : Heap) (locs : List Loc) (ls : Array Slot), PG G.1 gs H → DG (kA K) gs → va_S (kA K) (ks K).heap H locs → LV ls (kL K) vs → va_Run (kp K) (kl K) (ke K) (kR K) (ks K) (km K) (ka K) (kb K) (kme K) (kc K) H locs (kn K) (kt K) 0 0 (F0 (km K) pc ls st0) rest (Qcn G gsc Post a) (Ad gsc))
    (kk : ∀ (v : Option Value) (gs' : List va_W), Post v gs' → shp gs' = shp gsc → Wc K G (pc + 3) vs (v.toList ++ rest) (ups gs is gs')) : Wc K G pc vs st0 gs := by
  intro H locs ls hP hD hS hl T hT X
  obtain ⟨v, st₀, t, T', L, h0, X', hL, e1, e2, ⟨v', gs', ho, hpost, hsh, hPG, hF⟩, st⟩ := hr H locs ls hP hD hS hl T hT X
  cases ho
  obtain ⟨hF1, hF2⟩ := hF
  rw [h0] at hF1 hF2
  rw [← e1] at hF1 hF2 hPG
  have hA := sub_Ad hsub hD
  have hlen : is.length = gs'.length := by
    have q1 := congrArg List.length hsub
    have q2 := congrArg List.length hsh
    simp only [List.length_map, shp] at q1 q2
    omega
  have hsh2 : shp (ups gs is gs') = shp gs := ups_shp hsub hn hsh
  have hPn : PG G.1 (ups gs is gs') T'.heap := by
    rw [PG.mem] at hPG hP ⊢
    intro g hg q hq
    rcases ups_mem hlen hg with h | ⟨j, hj, hji⟩
    · exact hPG g h q hq
    · have hat := hP g (List.mem_of_getElem? hj) q hq
      refine hat.kept (hF2 q.1 hat.lt (fun hAd => ?_))
      obtain ⟨as, q1, q2⟩ := List.mem_flatten.mp hAd
      obtain ⟨g2, hg2, rfl⟩ := List.mem_map.mp q1
      obtain ⟨i, hi, hi2⟩ := sub_mem hsub hg2
      exact hD.apart hj hi2 (fun e => hji (by rw [e]; exact hi)) (List.mem_map.mpr ⟨q, hq, rfl⟩) q2
  obtain ⟨t2, a1, b1⟩ := kk v gs' hpost hsh T'.heap (locs ++ L) ls hPn (hD.same hsh2)
    ⟨Nat.le_trans hS.1 hF1, fun q h1 h2 => by rw [hF2 q (Nat.lt_of_lt_of_le h1 hS.1) (fun z => h2 (hA q z))]; exact hS.2.1 q h1 h2, fun q hq => by
      rcases List.mem_append.mp hq with h | h
      · exact hS.2.2 q h
      · exact hA _ (hL q h)⟩ hl T' rfl X'
  exact ⟨t2, st t2 a1, b1⟩
end
/-! what a method's own words are -/
def YB (y : MethodName) (bytes : ByteArray) (maxL : Nat) (ret : Option FieldType) (n : Nat) : Prop := Cond.code y bytes maxL ret ∈ lw_g ∧ Cond.initialized y.cls ∈ lw_g ∧ (y.cls ≠ "java/lang/invoke/MethodHandle" ∧ y.cls ≠ "java/lang/invoke/VarHandle") ∧ (parseMethodDescriptor y.desc).map (fun d => d.parameters.length) = some n
def YV (y : MethodName) (bytes : ByteArray) (maxL : Nat) (ret : Option FieldType) (n : Nat) : Prop := YB y bytes maxL ret n ∧ Cond.instanceMethod y ∈ lw_g ∧ Cond.selects y.cls y y ∈ lw_g
def YS (y : MethodName) (bytes : ByteArray) (maxL : Nat) (ret : Option FieldType) (n : Nat) : Prop := YB y bytes maxL ret n ∧ Cond.static y ∈ lw_g
theorem YB.len {y : MethodName} {bytes : ByteArray} {maxL : Nat} {ret : Option FieldType} {n : Nat} (h : YB y bytes maxL ret n) : ∀ sig, parseMethodDescriptor y.desc = some sig → n = sig.parameters.length := by
  intro sig hs
  have h2 := h.2.2.2
  rw [hs] at h2
  exact (Option.some.inj h2).symm
theorem YB.good {y : MethodName} {bytes : ByteArray} {maxL : Nat} {ret : Option FieldType} {n : Nat} (h : YB y bytes maxL ret n) : GoodIn lw_g (wU y bytes maxL ret) := by
  intro w hw
  have hm : w ∈ lw_g := by
    rcases List.mem_cons.mp hw with rfl | h2
    · exact h.1
    · exact h2
  exact ⟨hm, good_of_word (List.mem_filter.mp hm).2⟩
section
variable {K : KT} {l : Launch} {G : GT} {cc : ByteArray} {own : String} {ret : Option FieldType} {rm : Room} {pc : Nat} {vs : List (Option Value)} {st0 rest : List Value} {gs gsc : List va_W}
theorem fixC (C : Cf K l G cc own ret rm) : CallFix (kp K) (km K) (kc K) cc (kL K) (ks K) (ka K) lw_g own := ⟨C.x, C.b, C.ml, C.o, C.t⟩
/-- invokevirtual of a method of the receiver's own class -/
theorem r_callV (C : Cf K l G cc own ret rm) {y : MethodName} {bytes : ByteArray} {maxL n idx b ci N : Nat} {rt : Option FieldType} {rmc : Room} {As : List Value} {is : List Nat} {Post : Option Value → List va_W → Prop} {C0 : String} {T : u_T} {rg : va_W} {fs : List Value} (Y : YV y bytes maxL rt n) (hd : decode cc pc = .ok (.invokevirtual idx, 3)) (hw : Cond.methodLink own idx y ∈ lw_g) (hM : Cn l y bytes maxL rt rmc G (.ref b :: As) gsc Post) (ri rq : Nat) (hrg : gs[ri]? = some rg) (hre : rg[rq]? = some (b, .inr (ci, fs))) (hrc : vwCl[ci]? = some (C0, T, N)) (hC0 : y.cls = C0) (hsub : is.map (fun i => gs[i]?) = gsc.map some) (hnd : is.Nodup) (hn : As.length = n) (hst : st0 = As.reverse ++ .ref b :: rest) (hro : (rest.map fun v => v.category).sum ≤ 8) (hrm : rmc.cells = 0 ∧ rmc.slots = 0 ∧ rmc.frames + 1 ≤ rm.frames ∧ 8 + (maxL + 11) + rmc.locals ≤ rm.locals)
    (kk : ∀ (v : Option Value) (gs' : List va_W), Post v gs' → shp gs' = shp gsc → Wc K G (pc + 3) vs (v.toList ++ rest) (ups gs is gs')) : Wc K G pc vs st0 gs := by
  obtain ⟨YB0, Y2, Y3⟩ := Y
  subst hst
  refine call_core (a := (Value.ref b :: As).toArray) hsub hnd (fun H locs ls hP hD hS hl => ?_) kk
  have hpre := pre_sub (av := .ref b :: As) C hsub hnd hP hD hS
  have hM' : Met (kl K) y (wU y bytes maxL rt) rmc (Pcn G (.ref b :: As) gsc) (Qcn G gsc Post) 0 0 (Ad gsc) := by rw [C.la]; exact hM
  refine va_runV (C := C0) (fixC C) hM' ⟨⟨hrm.1, hrm.2.1, ?_, ?_, pay_in C.t YB0.good, List.mem_cons_self, C.t _ YB0.1, C.t _ YB0.2.1, YB0.2.2.1, YB0.len, C.t _ hw⟩, C.t _ Y2, by rw [← hC0]; exact C.t _ Y3⟩ ⟨hpre.1, va_recv C.k hP hrc (off_get hrg hre), hpre.2⟩ rfl hn hl.1 rfl (lv_room hro) hd ?_
  · rw [C.R]; exact hrm.2.2.1
  · rw [C.R]; exact hrm.2.2.2
  · rw [C.R]; exact C.n
/-- invokevirtual of a method that the receiver's class inherits or overrides -/
theorem r_callU (C : Cf K l G cc own ret rm) {x y : MethodName} {bytes : ByteArray} {maxL n idx b ci N : Nat} {rt : Option FieldType} {rmc : Room} {As : List Value} {is : List Nat} {Post : Option Value → List va_W → Prop} {C0 : String} {T : u_T} {rg : va_W} {fs : List Value} {b0 : ByteArray} {m0 : Nat} {r0 : Option FieldType} (Y : YB y bytes maxL rt n) (hd : decode cc pc = .ok (.invokevirtual idx, 3)) (hw : Cond.methodLink own idx x ∈ lw_g) (hsm : Cond.sameMethod x.cls x.cls x.name x.desc ∈ lw_g) (hxi : Cond.instanceMethod x ∈ lw_g) (hxc : Cond.code x b0 m0 r0 ∈ lw_g) (hxd : (parseMethodDescriptor x.desc).map (fun d => d.parameters.length) = some n) (hxm : x.cls ≠ "java/lang/invoke/MethodHandle" ∧ x.cls ≠ "java/lang/invoke/VarHandle") (hyi : Cond.instanceMethod y ∈ lw_g) (hse : Cond.selects C0 x y ∈ lw_g) (hM : Cn l y bytes maxL rt rmc G (.ref b :: As) gsc Post) (ri rq : Nat) (hrg : gs[ri]? = some rg) (hre : rg[rq]? = some (b, .inr (ci, fs))) (hrc : vwCl[ci]? = some (C0, T, N)) (hsub : is.map (fun i => gs[i]?) = gsc.map some) (hnd : is.Nodup) (hn : As.length = n) (hst : st0 = As.reverse ++ .ref b :: rest) (hro : (rest.map fun v => v.category).sum ≤ 8) (hrm : rmc.cells = 0 ∧ rmc.slots = 0 ∧ rmc.frames + 1 ≤ rm.frames ∧ 8 + (maxL + 11) + rmc.locals ≤ rm.locals)
    (kk : ∀ (v : Option Value) (gs' : List va_W), Post v gs' → shp gs' = shp gsc → Wc K G (pc + 3) vs (v.toList ++ rest) (ups gs is gs')) : Wc K G pc vs st0 gs := by
  subst hst
  refine call_core (a := (Value.ref b :: As).toArray) hsub hnd (fun H locs ls hP hD hS hl => ?_) kk
  have hpre := pre_sub (av := .ref b :: As) C hsub hnd hP hD hS
  have hM' : Met (kl K) y (wU y bytes maxL rt) rmc (Pcn G (.ref b :: As) gsc) (Qcn G gsc Post) 0 0 (Ad gsc) := by rw [C.la]; exact hM
  refine va_runU (C := C0) (owner := x.cls) (x := x) (fixC C) hM' ⟨⟨hrm.1, hrm.2.1, ?_, ?_, pay_in C.t Y.good, List.mem_cons_self⟩, C.t _ Y.1, C.t _ Y.2.1, hxm, ?_, C.t _ hw, C.t _ hsm, va_Decl.of (C.t _ hxi) (C.t _ hxc), C.t _ hse, C.t _ hyi⟩ ⟨hpre.1, va_recv C.k hP hrc (off_get hrg hre), hpre.2⟩ rfl hn hl.1 rfl (lv_room hro) hd ?_
  · rw [C.R]; exact hrm.2.2.1
  · rw [C.R]; exact hrm.2.2.2
  · intro sig hs
    have h2 := hxd
    rw [hs] at h2
    exact (Option.some.inj h2).symm
  · rw [C.R]; exact C.n
/-- invokespecial of super's method -/
theorem r_callP (C : Cf K l G cc own ret rm) {y : MethodName} {bytes : ByteArray} {maxL n idx b ci N : Nat} {rt : Option FieldType} {rmc : Room} {As : List Value} {is : List Nat} {Post : Option Value → List va_W → Prop} {C0 : String} {T : u_T} {rg : va_W} {fs : List Value} (Y : YB y bytes maxL rt n) (hd : decode cc pc = .ok (.invokespecial idx, 3)) (hw : Cond.methodLink own idx y ∈ lw_g) (hsm : Cond.sameMethod y.cls y.cls y.name y.desc ∈ lw_g) (hsu : Cond.superclass own y.cls ∈ lw_g) (hyi : Cond.instanceMethod y ∈ lw_g) (hno : y.name ≠ "<init>") (hM : Cn l y bytes maxL rt rmc G (.ref b :: As) gsc Post) (ri rq : Nat) (hrg : gs[ri]? = some rg) (hre : rg[rq]? = some (b, .inr (ci, fs))) (hrc : vwCl[ci]? = some (C0, T, N)) (hsub : is.map (fun i => gs[i]?) = gsc.map some) (hnd : is.Nodup) (hn : As.length = n) (hst : st0 = As.reverse ++ .ref b :: rest) (hro : (rest.map fun v => v.category).sum ≤ 8) (hrm : rmc.cells = 0 ∧ rmc.slots = 0 ∧ rmc.frames + 1 ≤ rm.frames ∧ 8 + (maxL + 11) + rmc.locals ≤ rm.locals)
    (kk : ∀ (v : Option Value) (gs' : List va_W), Post v gs' → shp gs' = shp gsc → Wc K G (pc + 3) vs (v.toList ++ rest) (ups gs is gs')) : Wc K G pc vs st0 gs := by
  subst hst
  refine call_core (a := (Value.ref b :: As).toArray) hsub hnd (fun H locs ls hP hD hS hl => ?_) kk
  have hpre := pre_sub (av := .ref b :: As) C hsub hnd hP hD hS
  have hM' : Met (kl K) y (wU y bytes maxL rt) rmc (Pcn G (.ref b :: As) gsc) (Qcn G gsc Post) 0 0 (Ad gsc) := by rw [C.la]; exact hM
  refine va_runSU (C := C0) (C.k.1 ci _ hrc).2 (fixC C) hM' ⟨⟨hrm.1, hrm.2.1, ?_, ?_, pay_in C.t Y.good, List.mem_cons_self⟩, C.t _ hw, C.t _ hsm, C.t _ hsu, C.t _ hyi, C.t _ Y.2.1, C.t _ Y.1, hno, Y.len⟩ ⟨hpre.1, va_recv C.k hP hrc (off_get hrg hre), hpre.2⟩ rfl hn hl.1 rfl (lv_room hro) hd ?_
  · rw [C.R]; exact hrm.2.2.1
  · rw [C.R]; exact hrm.2.2.2
  · rw [C.R]; exact C.n
/-- invokestatic -/
theorem r_callS (C : Cf K l G cc own ret rm) {y : MethodName} {bytes : ByteArray} {maxL n idx : Nat} {rt : Option FieldType} {rmc : Room} {As : List Value} {is : List Nat} {Post : Option Value → List va_W → Prop} (Y : YS y bytes maxL rt n) (hd : decode cc pc = .ok (.invokestatic idx, 3)) (hw : Cond.methodLink own idx y ∈ lw_g) (hM : Cn l y bytes maxL rt rmc G As gsc Post) (hsub : is.map (fun i => gs[i]?) = gsc.map some) (hnd : is.Nodup) (hn : As.length = n) (hst : st0 = As.reverse ++ rest) (hro : (rest.map fun v => v.category).sum ≤ 8) (hrm : rmc.cells = 0 ∧ rmc.slots = 0 ∧ rmc.frames + 1 ≤ rm.frames ∧ 8 + (maxL + 11) + rmc.locals ≤ rm.locals)
    (kk : ∀ (v : Option Value) (gs' : List va_W), Post v gs' → shp gs' = shp gsc → Wc K G (pc + 3) vs (v.toList ++ rest) (ups gs is gs')) : Wc K G pc vs st0 gs := by
  obtain ⟨YB0, Y2⟩ := Y
  subst hst
  refine call_core (a := As.toArray) hsub hnd (fun H locs ls hP hD hS hl => ?_) kk
  have hpre := pre_sub (av := As) C hsub hnd hP hD hS
  have hM' : Met (kl K) y (wU y bytes maxL rt) rmc (Pcn G As gsc) (Qcn G gsc Post) 0 0 (Ad gsc) := by rw [C.la]; exact hM
  refine va_runS (fixC C) hM' ⟨⟨hrm.1, hrm.2.1, ?_, ?_, pay_in C.t YB0.good, List.mem_cons_self, C.t _ YB0.1, C.t _ YB0.2.1, YB0.2.2.1, YB0.len, C.t _ hw⟩, C.t _ Y2⟩ hpre rfl hn hl.1 rfl (lv_room hro) hd ?_
  · rw [C.R]; exact hrm.2.2.1
  · rw [C.R]; exact hrm.2.2.2
  · rw [C.R]; exact C.n
/-- invokestatic of a nest mate's private method -/
theorem r_callN (C : Cf K l G cc own ret rm) {y : MethodName} {bytes : ByteArray} {maxL n idx : Nat} {host : String} {rt : Option FieldType} {rmc : Room} {As : List Value} {is : List Nat} {Post : Option Value → List va_W → Prop} (Y : YS y bytes maxL rt n) (hd : decode cc pc = .ok (.invokestatic idx, 3)) (hw : Cond.methodLinkNest own idx y host ∈ lw_n) (hM : Cn l y bytes maxL rt rmc G As gsc Post) (hsub : is.map (fun i => gs[i]?) = gsc.map some) (hnd : is.Nodup) (hn : As.length = n) (hst : st0 = As.reverse ++ rest) (hro : (rest.map fun v => v.category).sum ≤ 8) (hrm : rmc.cells = 0 ∧ rmc.slots = 0 ∧ rmc.frames + 1 ≤ rm.frames ∧ 8 + (maxL + 11) + rmc.locals ≤ rm.locals)
    (kk : ∀ (v : Option Value) (gs' : List va_W), Post v gs' → shp gs' = shp gsc → Wc K G (pc + 3) vs (v.toList ++ rest) (ups gs is gs')) : Wc K G pc vs st0 gs := by
  obtain ⟨YB0, Y2⟩ := Y
  subst hst
  refine call_core (a := As.toArray) hsub hnd (fun H locs ls hP hD hS hl => ?_) kk
  have hpre := pre_sub (av := As) C hsub hnd hP hD hS
  have hM' : Met (kl K) y (wU y bytes maxL rt) rmc (Pcn G As gsc) (Qcn G gsc Post) 0 0 (Ad gsc) := by rw [C.la]; exact hM
  refine va_runSN (host := host) (fixC C) hM' ⟨⟨⟨hrm.1, hrm.2.1, ?_, ?_, pay_in C.t YB0.good, List.mem_cons_self⟩, C.t _ YB0.1, C.t _ YB0.2.1, YB0.2.2.1, YB0.len, va_Nw.use rfl (C.z.2.2.2.2.1 _ hw)⟩, C.t _ Y2, trivial⟩ hpre rfl hn hl.1 rfl (lv_room hro) hd ?_
  · rw [C.R]; exact hrm.2.2.1
  · rw [C.R]; exact hrm.2.2.2
  · rw [C.R]; exact C.n
/-- behind a call that answers just so -/
theorem jst_i {is : List Nat} {z : Int} {gs1 gs2 : List va_W} (hu : ups gs is gs1 = gs2) (k : Wc K G (pc + 3) vs (.int (iI z) :: rest) gs2) : ∀ (v : Option Value) (gs' : List va_W), jst (some (.int (iI z))) gs1 v gs' → shp gs' = shp gsc → Wc K G (pc + 3) vs (v.toList ++ rest) (ups gs is gs') := by
  rintro v gs' ⟨rfl, rfl⟩ _
  rw [hu]
  exact k
theorem jst_a {is : List Nat} {z : Nat} {gs1 gs2 : List va_W} (hu : ups gs is gs1 = gs2) (k : Wc K G (pc + 3) vs (.ref z :: rest) gs2) : ∀ (v : Option Value) (gs' : List va_W), jst (some (.ref z)) gs1 v gs' → shp gs' = shp gsc → Wc K G (pc + 3) vs (v.toList ++ rest) (ups gs is gs') := by
  rintro v gs' ⟨rfl, rfl⟩ _
  rw [hu]
  exact k
theorem jst_v {is : List Nat} {gs1 gs2 : List va_W} (hu : ups gs is gs1 = gs2) (k : Wc K G (pc + 3) vs rest gs2) : ∀ (v : Option Value) (gs' : List va_W), jst none gs1 v gs' → shp gs' = shp gsc → Wc K G (pc + 3) vs (v.toList ++ rest) (ups gs is gs') := by
  rintro v gs' ⟨rfl, rfl⟩ _
  rw [hu]
  exact k
/-- Math.max, Math.min -/
theorem r_max (C : Cf K l G cc own ret rm) {idx : Nat} {a b : Int} (hd : decode cc pc = .ok (.invokestatic idx, 3)) (hw : Cond.methodLink own idx Lib.Math.max.name ∈ lw_g) (hs : Cond.static Lib.Math.max.name ∈ lw_g) (hi : Cond.initialized "java/lang/Math" ∈ lw_g) (hc : Cond.code Lib.Math.max.name Lib.Math.max.code 2 (some .int) ∈ lw_g) (hro : (rest.map fun v => v.category).sum ≤ 8) (hrm : 1 ≤ rm.frames ∧ 21 ≤ rm.locals) (ha : -2147483648 ≤ a ∧ a < 2147483648) (hb : -2147483648 ≤ b ∧ b < 2147483648) (k : Wc K G (pc + 3) vs (.int (iI (if a < b then b else a)) :: rest) gs) : Wc K G pc vs (.int (iI b) :: .int (iI a) :: rest) gs := by
  intro H locs ls hP hD hS hl
  have hR := C.R
  have hn := C.n
  refine va_mmax C.x C.b (C.ml.trans hl.1.symm) C.o (C.t _ hw) (C.t _ hs) (C.t _ hi) (C.t _ hc) (by rw [hR]; exact hrm.1) (by rw [hR]; omega) (by rw [hR]; exact hn.1) (by rw [hR]; exact hn.2) hd ?_
  have e : (if iI a < iI b then iI b else iI a) = iI (if a < b then b else a) := by
    by_cases h : a < b
    · rw [if_pos h, if_pos ((iI_lt ha hb).mpr h)]
    · rw [if_neg h, if_neg (fun q => h ((iI_lt ha hb).mp q))]
  rw [e]
  exact k H locs ls hP hD hS hl
theorem r_min (C : Cf K l G cc own ret rm) {idx : Nat} {a b : Int} (hd : decode cc pc = .ok (.invokestatic idx, 3)) (hw : Cond.methodLink own idx Lib.Math.min.name ∈ lw_g) (hs : Cond.static Lib.Math.min.name ∈ lw_g) (hi : Cond.initialized "java/lang/Math" ∈ lw_g) (hc : Cond.code Lib.Math.min.name Lib.Math.min.code 2 (some .int) ∈ lw_g) (hro : (rest.map fun v => v.category).sum ≤ 8) (hrm : 1 ≤ rm.frames ∧ 21 ≤ rm.locals) (ha : -2147483648 ≤ a ∧ a < 2147483648) (hb : -2147483648 ≤ b ∧ b < 2147483648) (k : Wc K G (pc + 3) vs (.int (iI (if b < a then b else a)) :: rest) gs) : Wc K G pc vs (.int (iI b) :: .int (iI a) :: rest) gs := by
  intro H locs ls hP hD hS hl
  have hR := C.R
  have hn := C.n
  refine va_mmin C.x C.b (C.ml.trans hl.1.symm) C.o (C.t _ hw) (C.t _ hs) (C.t _ hi) (C.t _ hc) (by rw [hR]; exact hrm.1) (by rw [hR]; omega) (by rw [hR]; exact hn.1) (by rw [hR]; exact hn.2) hd ?_
  have e : (if iI b < iI a then iI b else iI a) = iI (if b < a then b else a) := by
    by_cases h : b < a
    · rw [if_pos h, if_pos ((iI_lt hb ha).mpr h)]
    · rw [if_neg h, if_neg (fun q => h ((iI_lt hb ha).mp q))]
  rw [e]
  exact k H locs ls hP hD hS hl
/-- System.arraycopy of a whole row of ints into another of its length -/
theorem r_copy (C : Cf K l G cc own ret rm) {idx a0 a1 n : Nat} {g0 g1 g' : va_W} {gs' : List va_W} {F0' F1' : Int → Int} (i0 q0 i1 q1 : Nat) (hd : decode cc pc = .ok (.invokestatic idx, 3)) (hw : Cond.methodLink own idx arraycopyName ∈ lw_g) (hna : Cond.native arraycopyName ∈ lw_g) (hs : Cond.static arraycopyName ∈ lw_g) (hi : Cond.initialized "java/lang/System" ∈ lw_g) (hg0 : gs[i0]? = some g0) (he0 : g0[q0]? = some (a0, ia G.2.1 n F0')) (hg1 : gs[i1]? = some g1) (he1 : g1[q1]? = some (a1, ia G.2.1 n F1')) (hn : n < 2147483648) (hro : (rest.map fun v => v.category).sum ≤ 8) (hrm : 1 ≤ rm.frames ∧ 8 + (nativeFrameWords "java/lang/System" "arraycopy" 5 + 11) ≤ rm.locals) (hg' : g1.set q1 (a1, ia G.2.1 n F0') = g') (hgs : gs.set i1 g' = gs') (k : Wc K G (pc + 3) vs rest gs') : Wc K G pc vs (.int (iI (n : Int)) :: .int (iI 0) :: .ref a1 :: .int (iI 0) :: .ref a0 :: rest) gs := by
  intro H locs ls hP hD hS hl
  subst hg' hgs
  have hR := C.R
  have hq1 := (List.getElem?_eq_some_iff.mp he1).1
  have e1 : (iI (n : Int)).toNatClampNeg = n := by rw [iI_clamp (by omega)]; omega
  have e2 : (iI 0).toNatClampNeg = 0 := rfl
  have h0 : ¬ (iI 0 : Int32) < 0 := by decide
  have hnn : ¬ iI (n : Int) < 0 := fun q => by
    have := (iI_lt (a := (n : Int)) (b := 0) (by omega) (by omega)).mp q
    omega
  refine va_copyi C.x C.b (C.ml.trans hl.1.symm) C.o (C.t _ hw) (C.t _ hna) (C.t _ hs) (C.t _ hi) C.k hP hD.va hS (offG gs i0 + q0) (offG gs i1 + q1) 0 0 (off_get hg0 he0) (off_get hg1 he1) rfl rfl rfl h0 h0 hnn (by rw [e1, e2]; omega) (by rw [e1, e2]; omega) (fun i _ => rfl) (by rw [hR]; exact hrm.1) (by rw [hR]; omega) hd (fun H1 locs1 hP1 hD1 hS1 => ?_)
  have hat : va_at G.1 vwCl (a1, ia G.2.1 n F0') H1 := by
    have h2 := va_P_mem.mp hP1 (a1, .inl (G.2.1, n, .inl (va_cpy (fun j : Nat => iI (F0' (j : Int))) (fun j : Nat => iI (F1' (j : Int))) (iI 0).toNatClampNeg (iI 0).toNatClampNeg (iI (n : Int)).toNatClampNeg))) (List.mem_of_getElem? (i := offG gs i1 + q1) (List.getElem?_set_self (List.getElem?_eq_some_iff.mp (off_get hg1 he1)).1))
    show H1[a1]? = some (vp_cell G.2.1 (n, .inl (fun j : Nat => iI (F0' (j : Int)))))
    refine (show H1[a1]? = _ from h2).trans ?_
    rw [e1, e2]
    dsimp only
    rw [vp_cell_i, vp_cell_i]
    congr 1
    unfold arrV
    congr 1
    congr 1
    funext j
    have hj := j.isLt
    show Value.int (va_cpy _ _ 0 0 n j.val) = _
    unfold va_cpy
    rw [if_pos (by omega)]
    simp
  have hPn : PG G.1 (gs.set i1 (g1.set q1 (a1, ia G.2.1 n F0'))) H1 := by
    unfold PG
    rw [← off_set hg1 hq1]
    rw [va_P_mem]
    intro q hq
    obtain ⟨j, hj⟩ := List.getElem?_of_mem hq
    by_cases e : offG gs i1 + q1 = j
    · subst e
      rw [List.getElem?_set_self (List.getElem?_eq_some_iff.mp (off_get hg1 he1)).1] at hj
      cases hj
      exact hat
    · rw [List.getElem?_set_ne e] at hj
      exact va_P_mem.mp hP1 q (List.mem_of_getElem? (i := j) (by rw [List.getElem?_set_ne e]; exact hj))
  have e : shp (gs.set i1 (g1.set q1 (a1, ia G.2.1 n F0'))) = shp gs := by
    refine shp_set hg1 ?_
    rw [List.map_set]
    apply List.ext_getElem?
    intro j
    by_cases hj : q1 = j
    · subst hj
      rw [List.getElem?_set_self', List.getElem?_map, he1]
      rfl
    · rw [List.getElem?_set_ne hj]
  exact k H1 locs1 ls hPn (hD.same e) hS1 hl
end
end
