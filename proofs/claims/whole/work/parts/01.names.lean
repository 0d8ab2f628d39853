/-- a private method of a class that the tables say can be made, by its rows of tables_1 -/
def lw_okq (q : MethodName × Nat) : Prop := (q.1.cls ≠ "java/lang/invoke/MethodHandle" ∧ q.1.cls ≠ "java/lang/invoke/VarHandle") ∧ Cond.instantiable q.1.cls q.2 ∈ tables_1 ∧ Cond.privateMethod q.1 ∈ tables_1 ∧ Cond.instanceMethod q.1 ∈ tables_1
theorem lw_p0 : lw_okq (⟨"CoinsAreDoves", "refuse", "(I)I"⟩, 10) := ⟨⟨by decide +kernel, by decide +kernel⟩, List.mem_of_getElem? (i := 20) (by decide +kernel), List.mem_of_getElem? (i := 186) (by decide +kernel), List.mem_of_getElem? (i := 187) (by decide +kernel)⟩
theorem lw_p1 : lw_okq (⟨"CoinsAreDoves", "textBecomesTown", "()I"⟩, 10) := ⟨⟨by decide +kernel, by decide +kernel⟩, List.mem_of_getElem? (i := 20) (by decide +kernel), List.mem_of_getElem? (i := 199) (by decide +kernel), List.mem_of_getElem? (i := 200) (by decide +kernel)⟩
theorem lw_p2 : lw_okq (⟨"CoinsAreDoves$Text", "endOfStatement", "(I)I"⟩, 2) := ⟨⟨by decide +kernel, by decide +kernel⟩, List.mem_of_getElem? (i := 130) (by decide +kernel), List.mem_of_getElem? (i := 207) (by decide +kernel), List.mem_of_getElem? (i := 208) (by decide +kernel)⟩
theorem lw_p3 : lw_okq (⟨"CoinsAreDoves$Text", "signAt", "(I)I"⟩, 2) := ⟨⟨by decide +kernel, by decide +kernel⟩, List.mem_of_getElem? (i := 130) (by decide +kernel), List.mem_of_getElem? (i := 211) (by decide +kernel), List.mem_of_getElem? (i := 212) (by decide +kernel)⟩
theorem lw_p4 : lw_okq (⟨"CoinsAreDoves$Text", "tell", "(LCoinsAreDoves$Town;I)Z"⟩, 2) := ⟨⟨by decide +kernel, by decide +kernel⟩, List.mem_of_getElem? (i := 130) (by decide +kernel), List.mem_of_getElem? (i := 355) (by decide +kernel), List.mem_of_getElem? (i := 356) (by decide +kernel)⟩
theorem lw_p5 : lw_okq (⟨"CoinsAreDoves$Text", "digitAt", "(I)I"⟩, 2) := ⟨⟨by decide +kernel, by decide +kernel⟩, List.mem_of_getElem? (i := 130) (by decide +kernel), List.mem_of_getElem? (i := 359) (by decide +kernel), List.mem_of_getElem? (i := 360) (by decide +kernel)⟩
theorem lw_p6 : lw_okq (⟨"CoinsAreDoves$Text", "numberAt", "(I)I"⟩, 2) := ⟨⟨by decide +kernel, by decide +kernel⟩, List.mem_of_getElem? (i := 130) (by decide +kernel), List.mem_of_getElem? (i := 379) (by decide +kernel), List.mem_of_getElem? (i := 380) (by decide +kernel)⟩
theorem lw_p7 : lw_okq (⟨"CoinsAreDoves$Town", "kindOf", "(I)LCoinsAreDoves$Dove;"⟩, 13) := ⟨⟨by decide +kernel, by decide +kernel⟩, List.mem_of_getElem? (i := 28) (by decide +kernel), List.mem_of_getElem? (i := 428) (by decide +kernel), List.mem_of_getElem? (i := 429) (by decide +kernel)⟩
theorem lw_p8 : lw_okq (⟨"CoinsAreDoves$Town", "flyAtDusk", "()I"⟩, 13) := ⟨⟨by decide +kernel, by decide +kernel⟩, List.mem_of_getElem? (i := 28) (by decide +kernel), List.mem_of_getElem? (i := 548) (by decide +kernel), List.mem_of_getElem? (i := 549) (by decide +kernel)⟩
theorem lw_p9 : lw_okq (⟨"CoinsAreDoves$Town", "mayFly", "(I)Z"⟩, 13) := ⟨⟨by decide +kernel, by decide +kernel⟩, List.mem_of_getElem? (i := 28) (by decide +kernel), List.mem_of_getElem? (i := 552) (by decide +kernel), List.mem_of_getElem? (i := 553) (by decide +kernel)⟩
theorem lw_p10 : lw_okq (⟨"CoinsAreDoves$Town", "wingsGrow", "()V"⟩, 13) := ⟨⟨by decide +kernel, by decide +kernel⟩, List.mem_of_getElem? (i := 28) (by decide +kernel), List.mem_of_getElem? (i := 557) (by decide +kernel), List.mem_of_getElem? (i := 558) (by decide +kernel)⟩
theorem lw_p11 : lw_okq (⟨"CoinsAreDoves$Town", "layEggs", "()V"⟩, 13) := ⟨⟨by decide +kernel, by decide +kernel⟩, List.mem_of_getElem? (i := 28) (by decide +kernel), List.mem_of_getElem? (i := 561) (by decide +kernel), List.mem_of_getElem? (i := 562) (by decide +kernel)⟩
theorem lw_p12 : lw_okq (⟨"CoinsAreDoves$Town", "growOlder", "(I)V"⟩, 13) := ⟨⟨by decide +kernel, by decide +kernel⟩, List.mem_of_getElem? (i := 28) (by decide +kernel), List.mem_of_getElem? (i := 582) (by decide +kernel), List.mem_of_getElem? (i := 583) (by decide +kernel)⟩
theorem lw_p13 : lw_okq (⟨"CoinsAreDoves", "gainByCarrying", "(III)V"⟩, 10) := ⟨⟨by decide +kernel, by decide +kernel⟩, List.mem_of_getElem? (i := 20) (by decide +kernel), List.mem_of_getElem? (i := 616) (by decide +kernel), List.mem_of_getElem? (i := 617) (by decide +kernel)⟩
theorem lw_p14 : lw_okq (⟨"CoinsAreDoves", "sumOfGains", "(I)I"⟩, 10) := ⟨⟨by decide +kernel, by decide +kernel⟩, List.mem_of_getElem? (i := 20) (by decide +kernel), List.mem_of_getElem? (i := 621) (by decide +kernel), List.mem_of_getElem? (i := 622) (by decide +kernel)⟩
theorem lw_p15 : lw_okq (⟨"CoinsAreDoves", "cheapestSet", "(II)I"⟩, 10) := ⟨⟨by decide +kernel, by decide +kernel⟩, List.mem_of_getElem? (i := 20) (by decide +kernel), List.mem_of_getElem? (i := 630) (by decide +kernel), List.mem_of_getElem? (i := 631) (by decide +kernel)⟩
def lw_privs_1 : List (MethodName × Nat) := [(⟨"CoinsAreDoves", "refuse", "(I)I"⟩, 10), (⟨"CoinsAreDoves", "textBecomesTown", "()I"⟩, 10), (⟨"CoinsAreDoves$Text", "endOfStatement", "(I)I"⟩, 2), (⟨"CoinsAreDoves$Text", "signAt", "(I)I"⟩, 2), (⟨"CoinsAreDoves$Text", "tell", "(LCoinsAreDoves$Town;I)Z"⟩, 2), (⟨"CoinsAreDoves$Text", "digitAt", "(I)I"⟩, 2), (⟨"CoinsAreDoves$Text", "numberAt", "(I)I"⟩, 2), (⟨"CoinsAreDoves$Town", "kindOf", "(I)LCoinsAreDoves$Dove;"⟩, 13), (⟨"CoinsAreDoves$Town", "flyAtDusk", "()I"⟩, 13), (⟨"CoinsAreDoves$Town", "mayFly", "(I)Z"⟩, 13), (⟨"CoinsAreDoves$Town", "wingsGrow", "()V"⟩, 13), (⟨"CoinsAreDoves$Town", "layEggs", "()V"⟩, 13), (⟨"CoinsAreDoves$Town", "growOlder", "(I)V"⟩, 13), (⟨"CoinsAreDoves", "gainByCarrying", "(III)V"⟩, 10), (⟨"CoinsAreDoves", "sumOfGains", "(I)I"⟩, 10), (⟨"CoinsAreDoves", "cheapestSet", "(II)I"⟩, 10)]
theorem lw_r1 : ∀ q ∈ lw_privs_1, lw_okq q := List.forall_mem_cons.mpr ⟨lw_p0, List.forall_mem_cons.mpr ⟨lw_p1, List.forall_mem_cons.mpr ⟨lw_p2, List.forall_mem_cons.mpr ⟨lw_p3, List.forall_mem_cons.mpr ⟨lw_p4, List.forall_mem_cons.mpr ⟨lw_p5, List.forall_mem_cons.mpr ⟨lw_p6, List.forall_mem_cons.mpr ⟨lw_p7, List.forall_mem_cons.mpr ⟨lw_p8, List.forall_mem_cons.mpr ⟨lw_p9, List.forall_mem_cons.mpr ⟨lw_p10, List.forall_mem_cons.mpr ⟨lw_p11, List.forall_mem_cons.mpr ⟨lw_p12, List.forall_mem_cons.mpr ⟨lw_p13, List.forall_mem_cons.mpr ⟨lw_p14, List.forall_mem_cons.mpr ⟨lw_p15, fun _ h => absurd h List.not_mem_nil⟩⟩⟩⟩⟩⟩⟩⟩⟩⟩⟩⟩⟩⟩⟩⟩
theorem lw_p16 : lw_okq (⟨"CoinsAreDoves", "joinLofts", "(I)V"⟩, 10) := ⟨⟨by decide +kernel, by decide +kernel⟩, List.mem_of_getElem? (i := 20) (by decide +kernel), List.mem_of_getElem? (i := 639) (by decide +kernel), List.mem_of_getElem? (i := 640) (by decide +kernel)⟩
theorem lw_p17 : lw_okq (⟨"CoinsAreDoves", "takeLeastLeader", "(II)V"⟩, 10) := ⟨⟨by decide +kernel, by decide +kernel⟩, List.mem_of_getElem? (i := 20) (by decide +kernel), List.mem_of_getElem? (i := 643) (by decide +kernel), List.mem_of_getElem? (i := 644) (by decide +kernel)⟩
theorem lw_p18 : lw_okq (⟨"CoinsAreDoves", "purses", "()I"⟩, 10) := ⟨⟨by decide +kernel, by decide +kernel⟩, List.mem_of_getElem? (i := 20) (by decide +kernel), List.mem_of_getElem? (i := 647) (by decide +kernel), List.mem_of_getElem? (i := 648) (by decide +kernel)⟩
theorem lw_p19 : lw_okq (⟨"CoinsAreDoves", "richest", "()I"⟩, 10) := ⟨⟨by decide +kernel, by decide +kernel⟩, List.mem_of_getElem? (i := 20) (by decide +kernel), List.mem_of_getElem? (i := 651) (by decide +kernel), List.mem_of_getElem? (i := 652) (by decide +kernel)⟩
theorem lw_p20 : lw_okq (⟨"CoinsAreDoves", "sumLedBy", "(I)I"⟩, 10) := ⟨⟨by decide +kernel, by decide +kernel⟩, List.mem_of_getElem? (i := 20) (by decide +kernel), List.mem_of_getElem? (i := 655) (by decide +kernel), List.mem_of_getElem? (i := 656) (by decide +kernel)⟩
theorem lw_p21 : lw_okq (⟨"CoinsAreDoves", "makesRowTrue", "(II)Z"⟩, 10) := ⟨⟨by decide +kernel, by decide +kernel⟩, List.mem_of_getElem? (i := 20) (by decide +kernel), List.mem_of_getElem? (i := 688) (by decide +kernel), List.mem_of_getElem? (i := 689) (by decide +kernel)⟩
theorem lw_p22 : lw_okq (⟨"CoinsAreDoves", "sameAsRow", "(LCoinsAreDoves$Town;I)I"⟩, 10) := ⟨⟨by decide +kernel, by decide +kernel⟩, List.mem_of_getElem? (i := 20) (by decide +kernel), List.mem_of_getElem? (i := 692) (by decide +kernel), List.mem_of_getElem? (i := 693) (by decide +kernel)⟩
theorem lw_p23 : lw_okq (⟨"CoinsAreDoves", "refusalsCounted", "(I)I"⟩, 10) := ⟨⟨by decide +kernel, by decide +kernel⟩, List.mem_of_getElem? (i := 20) (by decide +kernel), List.mem_of_getElem? (i := 732) (by decide +kernel), List.mem_of_getElem? (i := 733) (by decide +kernel)⟩
theorem lw_p24 : lw_okq (⟨"CoinsAreDovesModel", "refuse", "(I)I"⟩, 12) := ⟨⟨by decide +kernel, by decide +kernel⟩, List.mem_of_getElem? (i := 736) (by decide +kernel), List.mem_of_getElem? (i := 786) (by decide +kernel), List.mem_of_getElem? (i := 787) (by decide +kernel)⟩
theorem lw_p25 : lw_okq (⟨"CoinsAreDovesModel", "reads", "()I"⟩, 12) := ⟨⟨by decide +kernel, by decide +kernel⟩, List.mem_of_getElem? (i := 736) (by decide +kernel), List.mem_of_getElem? (i := 794) (by decide +kernel), List.mem_of_getElem? (i := 795) (by decide +kernel)⟩
theorem lw_p26 : lw_okq (⟨"CoinsAreDovesModel", "readsStatement", "()Z"⟩, 12) := ⟨⟨by decide +kernel, by decide +kernel⟩, List.mem_of_getElem? (i := 736) (by decide +kernel), List.mem_of_getElem? (i := 798) (by decide +kernel), List.mem_of_getElem? (i := 799) (by decide +kernel)⟩
theorem lw_p27 : lw_okq (⟨"CoinsAreDovesModel", "sign", "()I"⟩, 12) := ⟨⟨by decide +kernel, by decide +kernel⟩, List.mem_of_getElem? (i := 736) (by decide +kernel), List.mem_of_getElem? (i := 802) (by decide +kernel), List.mem_of_getElem? (i := 803) (by decide +kernel)⟩
theorem lw_p28 : lw_okq (⟨"CoinsAreDovesModel", "readsNumber", "(II)Z"⟩, 12) := ⟨⟨by decide +kernel, by decide +kernel⟩, List.mem_of_getElem? (i := 736) (by decide +kernel), List.mem_of_getElem? (i := 806) (by decide +kernel), List.mem_of_getElem? (i := 807) (by decide +kernel)⟩
theorem lw_p29 : lw_okq (⟨"CoinsAreDovesModel", "readsKind", "()Z"⟩, 12) := ⟨⟨by decide +kernel, by decide +kernel⟩, List.mem_of_getElem? (i := 736) (by decide +kernel), List.mem_of_getElem? (i := 813) (by decide +kernel), List.mem_of_getElem? (i := 814) (by decide +kernel)⟩
theorem lw_p30 : lw_okq (⟨"CoinsAreDovesModel", "takes", "(I)Z"⟩, 12) := ⟨⟨by decide +kernel, by decide +kernel⟩, List.mem_of_getElem? (i := 736) (by decide +kernel), List.mem_of_getElem? (i := 820) (by decide +kernel), List.mem_of_getElem? (i := 821) (by decide +kernel)⟩
theorem lw_p31 : lw_okq (⟨"CoinsAreDovesModel", "comes", "(I)Z"⟩, 12) := ⟨⟨by decide +kernel, by decide +kernel⟩, List.mem_of_getElem? (i := 736) (by decide +kernel), List.mem_of_getElem? (i := 827) (by decide +kernel), List.mem_of_getElem? (i := 828) (by decide +kernel)⟩
def lw_privs_2 : List (MethodName × Nat) := [(⟨"CoinsAreDoves", "joinLofts", "(I)V"⟩, 10), (⟨"CoinsAreDoves", "takeLeastLeader", "(II)V"⟩, 10), (⟨"CoinsAreDoves", "purses", "()I"⟩, 10), (⟨"CoinsAreDoves", "richest", "()I"⟩, 10), (⟨"CoinsAreDoves", "sumLedBy", "(I)I"⟩, 10), (⟨"CoinsAreDoves", "makesRowTrue", "(II)Z"⟩, 10), (⟨"CoinsAreDoves", "sameAsRow", "(LCoinsAreDoves$Town;I)I"⟩, 10), (⟨"CoinsAreDoves", "refusalsCounted", "(I)I"⟩, 10), (⟨"CoinsAreDovesModel", "refuse", "(I)I"⟩, 12), (⟨"CoinsAreDovesModel", "reads", "()I"⟩, 12), (⟨"CoinsAreDovesModel", "readsStatement", "()Z"⟩, 12), (⟨"CoinsAreDovesModel", "sign", "()I"⟩, 12), (⟨"CoinsAreDovesModel", "readsNumber", "(II)Z"⟩, 12), (⟨"CoinsAreDovesModel", "readsKind", "()Z"⟩, 12), (⟨"CoinsAreDovesModel", "takes", "(I)Z"⟩, 12), (⟨"CoinsAreDovesModel", "comes", "(I)Z"⟩, 12)]
theorem lw_r2 : ∀ q ∈ lw_privs_2, lw_okq q := List.forall_mem_cons.mpr ⟨lw_p16, List.forall_mem_cons.mpr ⟨lw_p17, List.forall_mem_cons.mpr ⟨lw_p18, List.forall_mem_cons.mpr ⟨lw_p19, List.forall_mem_cons.mpr ⟨lw_p20, List.forall_mem_cons.mpr ⟨lw_p21, List.forall_mem_cons.mpr ⟨lw_p22, List.forall_mem_cons.mpr ⟨lw_p23, List.forall_mem_cons.mpr ⟨lw_p24, List.forall_mem_cons.mpr ⟨lw_p25, List.forall_mem_cons.mpr ⟨lw_p26, List.forall_mem_cons.mpr ⟨lw_p27, List.forall_mem_cons.mpr ⟨lw_p28, List.forall_mem_cons.mpr ⟨lw_p29, List.forall_mem_cons.mpr ⟨lw_p30, List.forall_mem_cons.mpr ⟨lw_p31, fun _ h => absurd h List.not_mem_nil⟩⟩⟩⟩⟩⟩⟩⟩⟩⟩⟩⟩⟩⟩⟩⟩
theorem lw_p32 : lw_okq (⟨"CoinsAreDovesModel", "isLoft", "(I)Z"⟩, 12) := ⟨⟨by decide +kernel, by decide +kernel⟩, List.mem_of_getElem? (i := 736) (by decide +kernel), List.mem_of_getElem? (i := 835) (by decide +kernel), List.mem_of_getElem? (i := 836) (by decide +kernel)⟩
theorem lw_p33 : lw_okq (⟨"CoinsAreDovesModel", "purseOf", "(I)I"⟩, 12) := ⟨⟨by decide +kernel, by decide +kernel⟩, List.mem_of_getElem? (i := 736) (by decide +kernel), List.mem_of_getElem? (i := 839) (by decide +kernel), List.mem_of_getElem? (i := 840) (by decide +kernel)⟩
theorem lw_p34 : lw_okq (⟨"CoinsAreDovesModel", "get", "(II)I"⟩, 12) := ⟨⟨by decide +kernel, by decide +kernel⟩, List.mem_of_getElem? (i := 736) (by decide +kernel), List.mem_of_getElem? (i := 843) (by decide +kernel), List.mem_of_getElem? (i := 844) (by decide +kernel)⟩
theorem lw_p35 : lw_okq (⟨"CoinsAreDovesModel", "valueOf", "(I)I"⟩, 12) := ⟨⟨by decide +kernel, by decide +kernel⟩, List.mem_of_getElem? (i := 736) (by decide +kernel), List.mem_of_getElem? (i := 847) (by decide +kernel), List.mem_of_getElem? (i := 848) (by decide +kernel)⟩
theorem lw_p36 : lw_okq (⟨"CoinsAreDovesModel", "ownOf", "(I)I"⟩, 12) := ⟨⟨by decide +kernel, by decide +kernel⟩, List.mem_of_getElem? (i := 736) (by decide +kernel), List.mem_of_getElem? (i := 851) (by decide +kernel), List.mem_of_getElem? (i := 852) (by decide +kernel)⟩
theorem lw_p37 : lw_okq (⟨"CoinsAreDovesModel", "isLost", "(I)Z"⟩, 12) := ⟨⟨by decide +kernel, by decide +kernel⟩, List.mem_of_getElem? (i := 736) (by decide +kernel), List.mem_of_getElem? (i := 855) (by decide +kernel), List.mem_of_getElem? (i := 856) (by decide +kernel)⟩
theorem lw_p38 : lw_okq (⟨"CoinsAreDovesModel", "isDove", "(I)Z"⟩, 12) := ⟨⟨by decide +kernel, by decide +kernel⟩, List.mem_of_getElem? (i := 736) (by decide +kernel), List.mem_of_getElem? (i := 863) (by decide +kernel), List.mem_of_getElem? (i := 864) (by decide +kernel)⟩
theorem lw_p39 : lw_okq (⟨"CoinsAreDovesModel", "flies", "(I)I"⟩, 12) := ⟨⟨by decide +kernel, by decide +kernel⟩, List.mem_of_getElem? (i := 736) (by decide +kernel), List.mem_of_getElem? (i := 867) (by decide +kernel), List.mem_of_getElem? (i := 868) (by decide +kernel)⟩
theorem lw_p40 : lw_okq (⟨"CoinsAreDovesModel", "wayOf", "(II)I"⟩, 12) := ⟨⟨by decide +kernel, by decide +kernel⟩, List.mem_of_getElem? (i := 736) (by decide +kernel), List.mem_of_getElem? (i := 871) (by decide +kernel), List.mem_of_getElem? (i := 872) (by decide +kernel)⟩
theorem lw_p41 : lw_okq (⟨"CoinsAreDovesModel", "nearestOther", "(I)I"⟩, 12) := ⟨⟨by decide +kernel, by decide +kernel⟩, List.mem_of_getElem? (i := 736) (by decide +kernel), List.mem_of_getElem? (i := 878) (by decide +kernel), List.mem_of_getElem? (i := 879) (by decide +kernel)⟩
theorem lw_p42 : lw_okq (⟨"CoinsAreDovesModel", "puts", "(III)V"⟩, 12) := ⟨⟨by decide +kernel, by decide +kernel⟩, List.mem_of_getElem? (i := 736) (by decide +kernel), List.mem_of_getElem? (i := 894) (by decide +kernel), List.mem_of_getElem? (i := 895) (by decide +kernel)⟩
theorem lw_p43 : lw_okq (⟨"CoinsAreDovesModel", "goesHome", "(II)V"⟩, 12) := ⟨⟨by decide +kernel, by decide +kernel⟩, List.mem_of_getElem? (i := 736) (by decide +kernel), List.mem_of_getElem? (i := 906) (by decide +kernel), List.mem_of_getElem? (i := 907) (by decide +kernel)⟩
theorem lw_p44 : lw_okq (⟨"CoinsAreDovesModel", "lostMany", "()I"⟩, 12) := ⟨⟨by decide +kernel, by decide +kernel⟩, List.mem_of_getElem? (i := 736) (by decide +kernel), List.mem_of_getElem? (i := 914) (by decide +kernel), List.mem_of_getElem? (i := 915) (by decide +kernel)⟩
theorem lw_p45 : lw_okq (⟨"CoinsAreDovesModel", "goes", "()V"⟩, 12) := ⟨⟨by decide +kernel, by decide +kernel⟩, List.mem_of_getElem? (i := 736) (by decide +kernel), List.mem_of_getElem? (i := 918) (by decide +kernel), List.mem_of_getElem? (i := 919) (by decide +kernel)⟩
theorem lw_p46 : lw_okq (⟨"CoinsAreDovesModel", "layEggs", "()V"⟩, 12) := ⟨⟨by decide +kernel, by decide +kernel⟩, List.mem_of_getElem? (i := 736) (by decide +kernel), List.mem_of_getElem? (i := 922) (by decide +kernel), List.mem_of_getElem? (i := 923) (by decide +kernel)⟩
theorem lw_p47 : lw_okq (⟨"CoinsAreDovesModel", "begins", "()V"⟩, 12) := ⟨⟨by decide +kernel, by decide +kernel⟩, List.mem_of_getElem? (i := 736) (by decide +kernel), List.mem_of_getElem? (i := 934) (by decide +kernel), List.mem_of_getElem? (i := 935) (by decide +kernel)⟩
def lw_privs_3 : List (MethodName × Nat) := [(⟨"CoinsAreDovesModel", "isLoft", "(I)Z"⟩, 12), (⟨"CoinsAreDovesModel", "purseOf", "(I)I"⟩, 12), (⟨"CoinsAreDovesModel", "get", "(II)I"⟩, 12), (⟨"CoinsAreDovesModel", "valueOf", "(I)I"⟩, 12), (⟨"CoinsAreDovesModel", "ownOf", "(I)I"⟩, 12), (⟨"CoinsAreDovesModel", "isLost", "(I)Z"⟩, 12), (⟨"CoinsAreDovesModel", "isDove", "(I)Z"⟩, 12), (⟨"CoinsAreDovesModel", "flies", "(I)I"⟩, 12), (⟨"CoinsAreDovesModel", "wayOf", "(II)I"⟩, 12), (⟨"CoinsAreDovesModel", "nearestOther", "(I)I"⟩, 12), (⟨"CoinsAreDovesModel", "puts", "(III)V"⟩, 12), (⟨"CoinsAreDovesModel", "goesHome", "(II)V"⟩, 12), (⟨"CoinsAreDovesModel", "lostMany", "()I"⟩, 12), (⟨"CoinsAreDovesModel", "goes", "()V"⟩, 12), (⟨"CoinsAreDovesModel", "layEggs", "()V"⟩, 12), (⟨"CoinsAreDovesModel", "begins", "()V"⟩, 12)]
theorem lw_r3 : ∀ q ∈ lw_privs_3, lw_okq q := List.forall_mem_cons.mpr ⟨lw_p32, List.forall_mem_cons.mpr ⟨lw_p33, List.forall_mem_cons.mpr ⟨lw_p34, List.forall_mem_cons.mpr ⟨lw_p35, List.forall_mem_cons.mpr ⟨lw_p36, List.forall_mem_cons.mpr ⟨lw_p37, List.forall_mem_cons.mpr ⟨lw_p38, List.forall_mem_cons.mpr ⟨lw_p39, List.forall_mem_cons.mpr ⟨lw_p40, List.forall_mem_cons.mpr ⟨lw_p41, List.forall_mem_cons.mpr ⟨lw_p42, List.forall_mem_cons.mpr ⟨lw_p43, List.forall_mem_cons.mpr ⟨lw_p44, List.forall_mem_cons.mpr ⟨lw_p45, List.forall_mem_cons.mpr ⟨lw_p46, List.forall_mem_cons.mpr ⟨lw_p47, fun _ h => absurd h List.not_mem_nil⟩⟩⟩⟩⟩⟩⟩⟩⟩⟩⟩⟩⟩⟩⟩⟩
theorem lw_p48 : lw_okq (⟨"CoinsAreDovesModel", "goesFor", "(I)V"⟩, 12) := ⟨⟨by decide +kernel, by decide +kernel⟩, List.mem_of_getElem? (i := 736) (by decide +kernel), List.mem_of_getElem? (i := 938) (by decide +kernel), List.mem_of_getElem? (i := 939) (by decide +kernel)⟩
theorem lw_p49 : lw_okq (⟨"CoinsAreDovesModel", "ends", "()V"⟩, 12) := ⟨⟨by decide +kernel, by decide +kernel⟩, List.mem_of_getElem? (i := 736) (by decide +kernel), List.mem_of_getElem? (i := 942) (by decide +kernel), List.mem_of_getElem? (i := 943) (by decide +kernel)⟩
theorem lw_p50 : lw_okq (⟨"CoinsAreDovesModel", "areDoves", "(I)Z"⟩, 12) := ⟨⟨by decide +kernel, by decide +kernel⟩, List.mem_of_getElem? (i := 736) (by decide +kernel), List.mem_of_getElem? (i := 955) (by decide +kernel), List.mem_of_getElem? (i := 956) (by decide +kernel)⟩
theorem lw_p51 : lw_okq (⟨"CoinsAreDovesModel", "staysOf", "(III)I"⟩, 12) := ⟨⟨by decide +kernel, by decide +kernel⟩, List.mem_of_getElem? (i := 736) (by decide +kernel), List.mem_of_getElem? (i := 959) (by decide +kernel), List.mem_of_getElem? (i := 960) (by decide +kernel)⟩
theorem lw_p52 : lw_okq (⟨"CoinsAreDovesModel", "areAllIn", "(II)Z"⟩, 12) := ⟨⟨by decide +kernel, by decide +kernel⟩, List.mem_of_getElem? (i := 736) (by decide +kernel), List.mem_of_getElem? (i := 967) (by decide +kernel), List.mem_of_getElem? (i := 968) (by decide +kernel)⟩
theorem lw_p53 : lw_okq (⟨"CoinsAreDovesModel", "worthNow", "(I)I"⟩, 12) := ⟨⟨by decide +kernel, by decide +kernel⟩, List.mem_of_getElem? (i := 736) (by decide +kernel), List.mem_of_getElem? (i := 971) (by decide +kernel), List.mem_of_getElem? (i := 972) (by decide +kernel)⟩
theorem lw_p54 : lw_okq (⟨"CoinsAreDovesModel", "oneWith", "(II)I"⟩, 12) := ⟨⟨by decide +kernel, by decide +kernel⟩, List.mem_of_getElem? (i := 736) (by decide +kernel), List.mem_of_getElem? (i := 979) (by decide +kernel), List.mem_of_getElem? (i := 980) (by decide +kernel)⟩
theorem lw_p55 : lw_okq (⟨"CoinsAreDovesModel", "isAsTold", "()Z"⟩, 12) := ⟨⟨by decide +kernel, by decide +kernel⟩, List.mem_of_getElem? (i := 736) (by decide +kernel), List.mem_of_getElem? (i := 1011) (by decide +kernel), List.mem_of_getElem? (i := 1012) (by decide +kernel)⟩
def lw_privs_4 : List (MethodName × Nat) := [(⟨"CoinsAreDovesModel", "goesFor", "(I)V"⟩, 12), (⟨"CoinsAreDovesModel", "ends", "()V"⟩, 12), (⟨"CoinsAreDovesModel", "areDoves", "(I)Z"⟩, 12), (⟨"CoinsAreDovesModel", "staysOf", "(III)I"⟩, 12), (⟨"CoinsAreDovesModel", "areAllIn", "(II)Z"⟩, 12), (⟨"CoinsAreDovesModel", "worthNow", "(I)I"⟩, 12), (⟨"CoinsAreDovesModel", "oneWith", "(II)I"⟩, 12), (⟨"CoinsAreDovesModel", "isAsTold", "()Z"⟩, 12)]
theorem lw_r4 : ∀ q ∈ lw_privs_4, lw_okq q := List.forall_mem_cons.mpr ⟨lw_p48, List.forall_mem_cons.mpr ⟨lw_p49, List.forall_mem_cons.mpr ⟨lw_p50, List.forall_mem_cons.mpr ⟨lw_p51, List.forall_mem_cons.mpr ⟨lw_p52, List.forall_mem_cons.mpr ⟨lw_p53, List.forall_mem_cons.mpr ⟨lw_p54, List.forall_mem_cons.mpr ⟨lw_p55, fun _ h => absurd h List.not_mem_nil⟩⟩⟩⟩⟩⟩⟩⟩
def lw_privs : List (MethodName × Nat) := lw_privs_1 ++ (lw_privs_2 ++ (lw_privs_3 ++ (lw_privs_4)))
def lw_tbl : List Cond := k2_sels lw_privs ++ tables_1
theorem lw_privs_ok : ∀ q ∈ lw_privs, lw_okq q := by
  show ∀ q ∈ lw_privs_1 ++ (lw_privs_2 ++ (lw_privs_3 ++ (lw_privs_4))), lw_okq q
  exact List.forall_mem_append.mpr ⟨lw_r1, List.forall_mem_append.mpr ⟨lw_r2, List.forall_mem_append.mpr ⟨lw_r3, lw_r4⟩⟩⟩
def RX0 : String := "CoinsAreDoves$Breeder"
def TX0 : u_T := fun k => match k with
  | _ => ("", "", "", false)
def tyX0 : Nat → FieldType := fun k => match k with
  | _ => .int
abbrev wsX00 : List Cond := u_ws RX0 TX0 0
theorem nmX0 : ∀ a, a < 0 → ∀ b, b < 0 → a ≠ b → (TX0 a).2.1 ≠ (TX0 b).2.1 := by decide +kernel
theorem tyX0_ok : ∀ k, k < 0 → parseFieldDescriptor (TX0 k).2.2.1 = some (tyX0 k) := by decide +kernel
abbrev cX0_init : ByteArray := prog_2_method_1_code
def yX0_init : MethodName := ⟨RX0, "<init>", "()V"⟩
abbrev cX0_worth : ByteArray := prog_2_method_2_code
def yX0_worth : MethodName := ⟨RX0, "worth", "(I)I"⟩
abbrev cX0_lays : ByteArray := prog_2_method_3_code
def yX0_lays : MethodName := ⟨RX0, "lays", "(I)Z"⟩
def RX1 : String := "CoinsAreDoves$Dove"
def TX1 : u_T := fun k => match k with
  | _ => ("", "", "", false)
def tyX1 : Nat → FieldType := fun k => match k with
  | _ => .int
abbrev wsX10 : List Cond := u_ws RX1 TX1 0
theorem nmX1 : ∀ a, a < 0 → ∀ b, b < 0 → a ≠ b → (TX1 a).2.1 ≠ (TX1 b).2.1 := by decide +kernel
theorem tyX1_ok : ∀ k, k < 0 → parseFieldDescriptor (TX1 k).2.2.1 = some (tyX1 k) := by decide +kernel
abbrev cX1_init : ByteArray := prog_3_method_1_code
def yX1_init : MethodName := ⟨RX1, "<init>", "()V"⟩
abbrev cX1_aim : ByteArray := prog_3_method_2_code
def yX1_aim : MethodName := ⟨RX1, "aim", "(LCoinsAreDoves$Town;III)I"⟩
abbrev cX1_worth : ByteArray := prog_3_method_3_code
def yX1_worth : MethodName := ⟨RX1, "worth", "(I)I"⟩
abbrev cX1_lays : ByteArray := prog_3_method_4_code
def yX1_lays : MethodName := ⟨RX1, "lays", "(I)Z"⟩
def RX2 : String := "CoinsAreDoves$Old"
def TX2 : u_T := fun k => match k with
  | _ => ("", "", "", false)
def tyX2 : Nat → FieldType := fun k => match k with
  | _ => .int
abbrev wsX20 : List Cond := u_ws RX2 TX2 0
theorem nmX2 : ∀ a, a < 0 → ∀ b, b < 0 → a ≠ b → (TX2 a).2.1 ≠ (TX2 b).2.1 := by decide +kernel
theorem tyX2_ok : ∀ k, k < 0 → parseFieldDescriptor (TX2 k).2.2.1 = some (tyX2 k) := by decide +kernel
abbrev cX2_init : ByteArray := prog_4_method_1_code
def yX2_init : MethodName := ⟨RX2, "<init>", "()V"⟩
abbrev cX2_aim : ByteArray := prog_4_method_2_code
def yX2_aim : MethodName := ⟨RX2, "aim", "(LCoinsAreDoves$Town;III)I"⟩
abbrev cX2_worth : ByteArray := prog_4_method_3_code
def yX2_worth : MethodName := ⟨RX2, "worth", "(I)I"⟩
def RX3 : String := "CoinsAreDoves$Stray"
def TX3 : u_T := fun k => match k with
  | _ => ("", "", "", false)
def tyX3 : Nat → FieldType := fun k => match k with
  | _ => .int
abbrev wsX30 : List Cond := u_ws RX3 TX3 0
theorem nmX3 : ∀ a, a < 0 → ∀ b, b < 0 → a ≠ b → (TX3 a).2.1 ≠ (TX3 b).2.1 := by decide +kernel
theorem tyX3_ok : ∀ k, k < 0 → parseFieldDescriptor (TX3 k).2.2.1 = some (tyX3 k) := by decide +kernel
abbrev cX3_init : ByteArray := prog_5_method_1_code
def yX3_init : MethodName := ⟨RX3, "<init>", "()V"⟩
abbrev cX3_aim : ByteArray := prog_5_method_2_code
def yX3_aim : MethodName := ⟨RX3, "aim", "(LCoinsAreDoves$Town;III)I"⟩
abbrev cX3_worth : ByteArray := prog_5_method_3_code
def yX3_worth : MethodName := ⟨RX3, "worth", "(I)I"⟩
def RX4 : String := "CoinsAreDoves$Tame"
def TX4 : u_T := fun k => match k with
  | _ => ("", "", "", false)
def tyX4 : Nat → FieldType := fun k => match k with
  | _ => .int
abbrev wsX40 : List Cond := u_ws RX4 TX4 0
theorem nmX4 : ∀ a, a < 0 → ∀ b, b < 0 → a ≠ b → (TX4 a).2.1 ≠ (TX4 b).2.1 := by decide +kernel
theorem tyX4_ok : ∀ k, k < 0 → parseFieldDescriptor (TX4 k).2.2.1 = some (tyX4 k) := by decide +kernel
abbrev cX4_init : ByteArray := prog_6_method_1_code
def yX4_init : MethodName := ⟨RX4, "<init>", "()V"⟩
abbrev cX4_aim : ByteArray := prog_6_method_2_code
def yX4_aim : MethodName := ⟨RX4, "aim", "(LCoinsAreDoves$Town;III)I"⟩
abbrev cX4_worth : ByteArray := prog_6_method_3_code
def yX4_worth : MethodName := ⟨RX4, "worth", "(I)I"⟩
def RX5 : String := "CoinsAreDoves$Text"
def TX5 : u_T := fun k => match k with
  | 0 => ("CoinsAreDoves$Text", "letters", "[I", true)
  | _ => ("CoinsAreDoves$Text", "length", "I", false)
def tyX5 : Nat → FieldType := fun k => match k with
  | 0 => .array .int
  | _ => .int
abbrev wsX50 : List Cond := u_ws RX5 TX5 2
theorem nmX5 : ∀ a, a < 2 → ∀ b, b < 2 → a ≠ b → (TX5 a).2.1 ≠ (TX5 b).2.1 := by decide +kernel
theorem tyX5_ok : ∀ k, k < 2 → parseFieldDescriptor (TX5 k).2.2.1 = some (tyX5 k) := by decide +kernel
abbrev cX5_init : ByteArray := prog_7_method_1_code
def yX5_init : MethodName := ⟨RX5, "<init>", "()V"⟩
abbrev cX5_isFull : ByteArray := prog_7_method_2_code
def yX5_isFull : MethodName := ⟨RX5, "isFull", "()Z"⟩
abbrev cX5_add : ByteArray := prog_7_method_3_code
def yX5_add : MethodName := ⟨RX5, "add", "(I)V"⟩
abbrev cX5_clear : ByteArray := prog_7_method_4_code
def yX5_clear : MethodName := ⟨RX5, "clear", "()V"⟩
abbrev cX5_firstMisfit : ByteArray := prog_7_method_5_code
def yX5_firstMisfit : MethodName := ⟨RX5, "firstMisfit", "()I"⟩
abbrev cX5_firstUntellable : ByteArray := prog_7_method_6_code
def yX5_firstUntellable : MethodName := ⟨RX5, "firstUntellable", "(LCoinsAreDoves$Town;)I"⟩
abbrev cX5_statements : ByteArray := prog_7_method_7_code
def yX5_statements : MethodName := ⟨RX5, "statements", "()I"⟩
abbrev cX5_endOfStatement : ByteArray := prog_7_method_8_code
def yX5_endOfStatement : MethodName := ⟨RX5, "endOfStatement", "(I)I"⟩
abbrev cX5_formBehind : ByteArray := prog_7_method_9_code
def yX5_formBehind : MethodName := ⟨RX5, "formBehind", "(I)Ljava/lang/String;"⟩
abbrev cX5_fits : ByteArray := prog_7_method_10_code
def yX5_fits : MethodName := ⟨RX5, "fits", "(CI)Z"⟩
abbrev cX5_tell : ByteArray := prog_7_method_11_code
def yX5_tell : MethodName := ⟨RX5, "tell", "(LCoinsAreDoves$Town;I)Z"⟩
abbrev cX5_signAt : ByteArray := prog_7_method_12_code
def yX5_signAt : MethodName := ⟨RX5, "signAt", "(I)I"⟩
abbrev cX5_digitAt : ByteArray := prog_7_method_13_code
def yX5_digitAt : MethodName := ⟨RX5, "digitAt", "(I)I"⟩
abbrev cX5_numberAt : ByteArray := prog_7_method_14_code
def yX5_numberAt : MethodName := ⟨RX5, "numberAt", "(I)I"⟩
abbrev cX5_isDigit : ByteArray := prog_7_method_15_code
def yX5_isDigit : MethodName := ⟨RX5, "isDigit", "(I)Z"⟩
abbrev cX5_kindOf : ByteArray := prog_7_method_16_code
def yX5_kindOf : MethodName := ⟨RX5, "kindOf", "(I)I"⟩
def RX6 : String := "CoinsAreDoves$Town"
def TX6 : u_T := fun k => match k with
  | 0 => ("CoinsAreDoves$Town", "kinds", "[LCoinsAreDoves$Dove;", true)
  | 1 => ("CoinsAreDoves$Town", "x", "[I", true)
  | 2 => ("CoinsAreDoves$Town", "y", "[I", true)
  | 3 => ("CoinsAreDoves$Town", "kind", "[I", true)
  | 4 => ("CoinsAreDoves$Town", "home", "[I", true)
  | 5 => ("CoinsAreDoves$Town", "age", "[I", true)
  | 6 => ("CoinsAreDoves$Town", "at", "[I", true)
  | 7 => ("CoinsAreDoves$Town", "clipped", "[I", true)
  | 8 => ("CoinsAreDoves$Town", "lofts", "I", false)
  | 9 => ("CoinsAreDoves$Town", "doves", "I", false)
  | 10 => ("CoinsAreDoves$Town", "open", "I", false)
  | 11 => ("CoinsAreDoves$Town", "hawk", "I", false)
  | _ => ("CoinsAreDoves$Town", "dusk", "I", false)
def tyX6 : Nat → FieldType := fun k => match k with
  | 0 => .array (.object "CoinsAreDoves$Dove")
  | 1 => .array .int
  | 2 => .array .int
  | 3 => .array .int
  | 4 => .array .int
  | 5 => .array .int
  | 6 => .array .int
  | 7 => .array .int
  | 8 => .int
  | 9 => .int
  | 10 => .int
  | 11 => .int
  | _ => .int
abbrev wsX60 : List Cond := u_ws RX6 TX6 13
theorem nmX6 : ∀ a, a < 13 → ∀ b, b < 13 → a ≠ b → (TX6 a).2.1 ≠ (TX6 b).2.1 := by decide +kernel
theorem tyX6_ok : ∀ k, k < 13 → parseFieldDescriptor (TX6 k).2.2.1 = some (tyX6 k) := by decide +kernel
abbrev cX6_init : ByteArray := prog_8_method_1_code
def yX6_init : MethodName := ⟨RX6, "<init>", "()V"⟩
abbrev cX6_become : ByteArray := prog_8_method_2_code
def yX6_become : MethodName := ⟨RX6, "become", "(LCoinsAreDoves$Town;)V"⟩
abbrev cX6_hasLoft : ByteArray := prog_8_method_3_code
def yX6_hasLoft : MethodName := ⟨RX6, "hasLoft", "(I)Z"⟩
abbrev cX6_hasDove : ByteArray := prog_8_method_4_code
def yX6_hasDove : MethodName := ⟨RX6, "hasDove", "(I)Z"⟩
abbrev cX6_addLoft : ByteArray := prog_8_method_5_code
def yX6_addLoft : MethodName := ⟨RX6, "addLoft", "(II)Z"⟩
abbrev cX6_addDove : ByteArray := prog_8_method_6_code
def yX6_addDove : MethodName := ⟨RX6, "addDove", "(III)Z"⟩
abbrev cX6_turnWindows : ByteArray := prog_8_method_7_code
def yX6_turnWindows : MethodName := ⟨RX6, "turnWindows", "(I)Z"⟩
abbrev cX6_takeHawk : ByteArray := prog_8_method_8_code
def yX6_takeHawk : MethodName := ⟨RX6, "takeHawk", "(I)Z"⟩
abbrev cX6_isOpen : ByteArray := prog_8_method_9_code
def yX6_isOpen : MethodName := ⟨RX6, "isOpen", "(I)Z"⟩
abbrev cX6_isLost : ByteArray := prog_8_method_10_code
def yX6_isLost : MethodName := ⟨RX6, "isLost", "(I)Z"⟩
abbrev cX6_isHome : ByteArray := prog_8_method_11_code
def yX6_isHome : MethodName := ⟨RX6, "isHome", "(I)Z"⟩
abbrev cX6_dovesNotLost : ByteArray := prog_8_method_12_code
def yX6_dovesNotLost : MethodName := ⟨RX6, "dovesNotLost", "()I"⟩
abbrev cX6_dovesIn : ByteArray := prog_8_method_13_code
def yX6_dovesIn : MethodName := ⟨RX6, "dovesIn", "(I)I"⟩
abbrev cX6_dovesHatchedIn : ByteArray := prog_8_method_14_code
def yX6_dovesHatchedIn : MethodName := ⟨RX6, "dovesHatchedIn", "(I)I"⟩
abbrev cX6_apart : ByteArray := prog_8_method_15_code
def yX6_apart : MethodName := ⟨RX6, "apart", "(II)I"⟩
abbrev cX6_nearestOther : ByteArray := prog_8_method_16_code
def yX6_nearestOther : MethodName := ⟨RX6, "nearestOther", "(I)I"⟩
abbrev cX6_kindOf : ByteArray := prog_8_method_17_code
def yX6_kindOf : MethodName := ⟨RX6, "kindOf", "(I)LCoinsAreDoves$Dove;"⟩
abbrev cX6_worthOf : ByteArray := prog_8_method_18_code
def yX6_worthOf : MethodName := ⟨RX6, "worthOf", "(I)I"⟩
abbrev cX6_aimOf : ByteArray := prog_8_method_19_code
def yX6_aimOf : MethodName := ⟨RX6, "aimOf", "(I)I"⟩
abbrev cX6_placeIfLetGo : ByteArray := prog_8_method_20_code
def yX6_placeIfLetGo : MethodName := ⟨RX6, "placeIfLetGo", "(I)I"⟩
abbrev cX6_purseOf : ByteArray := prog_8_method_21_code
def yX6_purseOf : MethodName := ⟨RX6, "purseOf", "(I)I"⟩
abbrev cX6_ownOf : ByteArray := prog_8_method_22_code
def yX6_ownOf : MethodName := ⟨RX6, "ownOf", "(I)I"⟩
abbrev cX6_worthOfAll : ByteArray := prog_8_method_23_code
def yX6_worthOfAll : MethodName := ⟨RX6, "worthOfAll", "(I)I"⟩
abbrev cX6_letAllGo : ByteArray := prog_8_method_24_code
def yX6_letAllGo : MethodName := ⟨RX6, "letAllGo", "()V"⟩
abbrev cX6_passDusks : ByteArray := prog_8_method_25_code
def yX6_passDusks : MethodName := ⟨RX6, "passDusks", "(I)I"⟩
abbrev cX6_passDusk : ByteArray := prog_8_method_26_code
def yX6_passDusk : MethodName := ⟨RX6, "passDusk", "()I"⟩
abbrev cX6_flyAtDusk : ByteArray := prog_8_method_27_code
def yX6_flyAtDusk : MethodName := ⟨RX6, "flyAtDusk", "()I"⟩
abbrev cX6_mayFly : ByteArray := prog_8_method_28_code
def yX6_mayFly : MethodName := ⟨RX6, "mayFly", "(I)Z"⟩
abbrev cX6_wingsGrow : ByteArray := prog_8_method_29_code
def yX6_wingsGrow : MethodName := ⟨RX6, "wingsGrow", "()V"⟩
abbrev cX6_layEggs : ByteArray := prog_8_method_30_code
def yX6_layEggs : MethodName := ⟨RX6, "layEggs", "()V"⟩
abbrev cX6_growOlder : ByteArray := prog_8_method_31_code
def yX6_growOlder : MethodName := ⟨RX6, "growOlder", "(I)V"⟩
def RX7 : String := "CoinsAreDoves$Young"
def TX7 : u_T := fun k => match k with
  | _ => ("", "", "", false)
def tyX7 : Nat → FieldType := fun k => match k with
  | _ => .int
abbrev wsX70 : List Cond := u_ws RX7 TX7 0
theorem nmX7 : ∀ a, a < 0 → ∀ b, b < 0 → a ≠ b → (TX7 a).2.1 ≠ (TX7 b).2.1 := by decide +kernel
theorem tyX7_ok : ∀ k, k < 0 → parseFieldDescriptor (TX7 k).2.2.1 = some (tyX7 k) := by decide +kernel
abbrev cX7_init : ByteArray := prog_9_method_1_code
def yX7_init : MethodName := ⟨RX7, "<init>", "()V"⟩
abbrev cX7_aim : ByteArray := prog_9_method_2_code
def yX7_aim : MethodName := ⟨RX7, "aim", "(LCoinsAreDoves$Town;III)I"⟩
abbrev cX7_worth : ByteArray := prog_9_method_3_code
def yX7_worth : MethodName := ⟨RX7, "worth", "(I)I"⟩
def RX8 : String := "CoinsAreDoves"
def TX8 : u_T := fun k => match k with
  | 0 => ("CoinsAreDoves", "now", "LCoinsAreDoves$Town;", true)
  | 1 => ("CoinsAreDoves", "mind", "LCoinsAreDoves$Town;", true)
  | 2 => ("CoinsAreDoves", "kept", "LCoinsAreDoves$Town;", true)
  | 3 => ("CoinsAreDoves", "text", "LCoinsAreDoves$Text;", true)
  | 4 => ("CoinsAreDoves", "row", "[I", true)
  | 5 => ("CoinsAreDoves", "leaders", "[I", true)
  | 6 => ("CoinsAreDoves", "gains", "[I", true)
  | 7 => ("CoinsAreDoves", "refusals", "[I", true)
  | 8 => ("CoinsAreDoves", "rowLength", "I", false)
  | _ => ("CoinsAreDoves", "imageTaken", "Z", false)
def tyX8 : Nat → FieldType := fun k => match k with
  | 0 => .object "CoinsAreDoves$Town"
  | 1 => .object "CoinsAreDoves$Town"
  | 2 => .object "CoinsAreDoves$Town"
  | 3 => .object "CoinsAreDoves$Text"
  | 4 => .array .int
  | 5 => .array .int
  | 6 => .array .int
  | 7 => .array .int
  | 8 => .int
  | _ => .boolean
abbrev wsX80 : List Cond := u_ws RX8 TX8 10
theorem nmX8 : ∀ a, a < 10 → ∀ b, b < 10 → a ≠ b → (TX8 a).2.1 ≠ (TX8 b).2.1 := by decide +kernel
theorem tyX8_ok : ∀ k, k < 10 → parseFieldDescriptor (TX8 k).2.2.1 = some (tyX8 k) := by decide +kernel
abbrev cX8_init : ByteArray := prog_1_method_1_code
def yX8_init : MethodName := ⟨RX8, "<init>", "()V"⟩
abbrev cX8_letter : ByteArray := prog_1_method_2_code
def yX8_letter : MethodName := ⟨RX8, "letter", "(I)I"⟩
abbrev cX8_town : ByteArray := prog_1_method_3_code
def yX8_town : MethodName := ⟨RX8, "town", "()I"⟩
abbrev cX8_loft : ByteArray := prog_1_method_4_code
def yX8_loft : MethodName := ⟨RX8, "loft", "(II)I"⟩
abbrev cX8_dove : ByteArray := prog_1_method_5_code
def yX8_dove : MethodName := ⟨RX8, "dove", "(II)I"⟩
abbrev cX8_open : ByteArray := prog_1_method_6_code
def yX8_open : MethodName := ⟨RX8, "open", "(II)I"⟩
abbrev cX8_hawk : ByteArray := prog_1_method_7_code
def yX8_hawk : MethodName := ⟨RX8, "hawk", "(I)I"⟩
abbrev cX8_carry : ByteArray := prog_1_method_8_code
def yX8_carry : MethodName := ⟨RX8, "carry", "(II)I"⟩
abbrev cX8_clip : ByteArray := prog_1_method_9_code
def yX8_clip : MethodName := ⟨RX8, "clip", "(II)I"⟩
abbrev cX8_go : ByteArray := prog_1_method_10_code
def yX8_go : MethodName := ⟨RX8, "go", "(I)I"⟩
abbrev cX8_dusk : ByteArray := prog_1_method_11_code
def yX8_dusk : MethodName := ⟨RX8, "dusk", "()I"⟩
abbrev cX8_way : ByteArray := prog_1_method_12_code
def yX8_way : MethodName := ⟨RX8, "way", "(II)I"⟩
abbrev cX8_purse : ByteArray := prog_1_method_13_code
def yX8_purse : MethodName := ⟨RX8, "purse", "(II)I"⟩
abbrev cX8_letting : ByteArray := prog_1_method_14_code
def yX8_letting : MethodName := ⟨RX8, "letting", "(I)I"⟩
abbrev cX8_stays : ByteArray := prog_1_method_15_code
def yX8_stays : MethodName := ⟨RX8, "stays", "(III)I"⟩
abbrev cX8_cheapest : ByteArray := prog_1_method_16_code
def yX8_cheapest : MethodName := ⟨RX8, "cheapest", "(IIII)I"⟩
abbrev cX8_near : ByteArray := prog_1_method_17_code
def yX8_near : MethodName := ⟨RX8, "near", "(II)I"⟩
abbrev cX8_whose : ByteArray := prog_1_method_18_code
def yX8_whose : MethodName := ⟨RX8, "whose", "(II)I"⟩
abbrev cX8_run : ByteArray := prog_1_method_19_code
def yX8_run : MethodName := ⟨RX8, "run", "(II)I"⟩
abbrev cX8_bestOpen : ByteArray := prog_1_method_20_code
def yX8_bestOpen : MethodName := ⟨RX8, "bestOpen", "(II)I"⟩
abbrev cX8_homing : ByteArray := prog_1_method_21_code
def yX8_homing : MethodName := ⟨RX8, "homing", "(I)I"⟩
abbrev cX8_spare : ByteArray := prog_1_method_22_code
def yX8_spare : MethodName := ⟨RX8, "spare", "(I)I"⟩
abbrev cX8_row : ByteArray := prog_1_method_23_code
def yX8_row : MethodName := ⟨RX8, "row", "(I)I"⟩
abbrev cX8_paid : ByteArray := prog_1_method_24_code
def yX8_paid : MethodName := ⟨RX8, "paid", "(I)I"⟩
abbrev cX8_judge : ByteArray := prog_1_method_25_code
def yX8_judge : MethodName := ⟨RX8, "judge", "()I"⟩
abbrev cX8_seeds : ByteArray := prog_1_method_26_code
def yX8_seeds : MethodName := ⟨RX8, "seeds", "(III)I"⟩
abbrev cX8_image : ByteArray := prog_1_method_27_code
def yX8_image : MethodName := ⟨RX8, "image", "()I"⟩
abbrev cX8_on : ByteArray := prog_1_method_28_code
def yX8_on : MethodName := ⟨RX8, "on", "()I"⟩
abbrev cX8_count : ByteArray := prog_1_method_29_code
def yX8_count : MethodName := ⟨RX8, "count", "(I)I"⟩
abbrev cX8_outside : ByteArray := prog_1_method_30_code
def yX8_outside : MethodName := ⟨RX8, "outside", "(III)I"⟩
abbrev cX8_refuse : ByteArray := prog_1_method_31_code
def yX8_refuse : MethodName := ⟨RX8, "refuse", "(I)I"⟩
abbrev cX8_refusalsCounted : ByteArray := prog_1_method_32_code
def yX8_refusalsCounted : MethodName := ⟨RX8, "refusalsCounted", "(I)I"⟩
abbrev cX8_textBecomesTown : ByteArray := prog_1_method_33_code
def yX8_textBecomesTown : MethodName := ⟨RX8, "textBecomesTown", "()I"⟩
abbrev cX8_gainByCarrying : ByteArray := prog_1_method_34_code
def yX8_gainByCarrying : MethodName := ⟨RX8, "gainByCarrying", "(III)V"⟩
abbrev cX8_sumOfGains : ByteArray := prog_1_method_35_code
def yX8_sumOfGains : MethodName := ⟨RX8, "sumOfGains", "(I)I"⟩
abbrev cX8_cheapestSet : ByteArray := prog_1_method_36_code
def yX8_cheapestSet : MethodName := ⟨RX8, "cheapestSet", "(II)I"⟩
abbrev cX8_joinLofts : ByteArray := prog_1_method_37_code
def yX8_joinLofts : MethodName := ⟨RX8, "joinLofts", "(I)V"⟩
abbrev cX8_takeLeastLeader : ByteArray := prog_1_method_38_code
def yX8_takeLeastLeader : MethodName := ⟨RX8, "takeLeastLeader", "(II)V"⟩
abbrev cX8_purses : ByteArray := prog_1_method_39_code
def yX8_purses : MethodName := ⟨RX8, "purses", "()I"⟩
abbrev cX8_richest : ByteArray := prog_1_method_40_code
def yX8_richest : MethodName := ⟨RX8, "richest", "()I"⟩
abbrev cX8_sumLedBy : ByteArray := prog_1_method_41_code
def yX8_sumLedBy : MethodName := ⟨RX8, "sumLedBy", "(I)I"⟩
abbrev cX8_makesRowTrue : ByteArray := prog_1_method_42_code
def yX8_makesRowTrue : MethodName := ⟨RX8, "makesRowTrue", "(II)Z"⟩
abbrev cX8_sameAsRow : ByteArray := prog_1_method_43_code
def yX8_sameAsRow : MethodName := ⟨RX8, "sameAsRow", "(LCoinsAreDoves$Town;I)I"⟩
abbrev cX8_nextSeed : ByteArray := prog_1_method_44_code
def yX8_nextSeed : MethodName := ⟨RX8, "nextSeed", "(I)I"⟩
abbrev cX8_drawn : ByteArray := prog_1_method_45_code
def yX8_drawn : MethodName := ⟨RX8, "drawn", "(II)I"⟩
abbrev cX8_isIn : ByteArray := prog_1_method_46_code
def yX8_isIn : MethodName := ⟨RX8, "isIn", "(II)Z"⟩
def RX9 : String := "CoinsAreDovesModel"
def TX9 : u_T := fun k => match k with
  | 0 => ("CoinsAreDovesModel", "refusals", "[I", true)
  | 1 => ("CoinsAreDovesModel", "s", "[I", true)
  | 2 => ("CoinsAreDovesModel", "image", "[I", true)
  | 3 => ("CoinsAreDovesModel", "read", "[I", true)
  | 4 => ("CoinsAreDovesModel", "mind", "[I", true)
  | 5 => ("CoinsAreDovesModel", "isImage", "Z", false)
  | 6 => ("CoinsAreDovesModel", "tape", "[I", true)
  | 7 => ("CoinsAreDovesModel", "told", "[I", true)
  | 8 => ("CoinsAreDovesModel", "taped", "I", false)
  | 9 => ("CoinsAreDovesModel", "at", "I", false)
  | 10 => ("CoinsAreDovesModel", "row", "[I", true)
  | _ => ("CoinsAreDovesModel", "rowed", "I", false)
def tyX9 : Nat → FieldType := fun k => match k with
  | 0 => .array .int
  | 1 => .array .int
  | 2 => .array .int
  | 3 => .array .int
  | 4 => .array .int
  | 5 => .boolean
  | 6 => .array .int
  | 7 => .array .int
  | 8 => .int
  | 9 => .int
  | 10 => .array .int
  | _ => .int
abbrev wsX90 : List Cond := u_ws RX9 TX9 12
theorem nmX9 : ∀ a, a < 12 → ∀ b, b < 12 → a ≠ b → (TX9 a).2.1 ≠ (TX9 b).2.1 := by decide +kernel
theorem tyX9_ok : ∀ k, k < 12 → parseFieldDescriptor (TX9 k).2.2.1 = some (tyX9 k) := by decide +kernel
abbrev cX9_init : ByteArray := prog_11_method_1_code
def yX9_init : MethodName := ⟨RX9, "<init>", "()V"⟩
abbrev cX9_refuse : ByteArray := prog_11_method_2_code
def yX9_refuse : MethodName := ⟨RX9, "refuse", "(I)I"⟩
abbrev cX9_isIn : ByteArray := prog_11_method_3_code
def yX9_isIn : MethodName := ⟨RX9, "isIn", "(II)Z"⟩
abbrev cX9_within : ByteArray := prog_11_method_4_code
def yX9_within : MethodName := ⟨RX9, "within", "(III)I"⟩
abbrev cX9_amount : ByteArray := prog_11_method_5_code
def yX9_amount : MethodName := ⟨RX9, "amount", "(I)I"⟩
abbrev cX9_lays : ByteArray := prog_11_method_6_code
def yX9_lays : MethodName := ⟨RX9, "lays", "([I[I)V"⟩
abbrev cX9_begins : ByteArray := prog_11_method_7_code
def yX9_begins : MethodName := ⟨RX9, "begins", "()V"⟩
abbrev cX9_ends : ByteArray := prog_11_method_8_code
def yX9_ends : MethodName := ⟨RX9, "ends", "()V"⟩
abbrev cX9_isLoft : ByteArray := prog_11_method_9_code
def yX9_isLoft : MethodName := ⟨RX9, "isLoft", "(I)Z"⟩
abbrev cX9_isDove : ByteArray := prog_11_method_10_code
def yX9_isDove : MethodName := ⟨RX9, "isDove", "(I)Z"⟩
abbrev cX9_get : ByteArray := prog_11_method_11_code
def yX9_get : MethodName := ⟨RX9, "get", "(II)I"⟩
abbrev cX9_puts : ByteArray := prog_11_method_12_code
def yX9_puts : MethodName := ⟨RX9, "puts", "(III)V"⟩
abbrev cX9_isLost : ByteArray := prog_11_method_13_code
def yX9_isLost : MethodName := ⟨RX9, "isLost", "(I)Z"⟩
abbrev cX9_letter : ByteArray := prog_11_method_14_code
def yX9_letter : MethodName := ⟨RX9, "letter", "(I)I"⟩
abbrev cX9_sign : ByteArray := prog_11_method_15_code
def yX9_sign : MethodName := ⟨RX9, "sign", "()I"⟩
abbrev cX9_takes : ByteArray := prog_11_method_16_code
def yX9_takes : MethodName := ⟨RX9, "takes", "(I)Z"⟩
abbrev cX9_readsNumber : ByteArray := prog_11_method_17_code
def yX9_readsNumber : MethodName := ⟨RX9, "readsNumber", "(II)Z"⟩
abbrev cX9_kindOf : ByteArray := prog_11_method_18_code
def yX9_kindOf : MethodName := ⟨RX9, "kindOf", "(I)I"⟩
abbrev cX9_readsKind : ByteArray := prog_11_method_19_code
def yX9_readsKind : MethodName := ⟨RX9, "readsKind", "()Z"⟩
abbrev cX9_readsStatement : ByteArray := prog_11_method_20_code
def yX9_readsStatement : MethodName := ⟨RX9, "readsStatement", "()Z"⟩
abbrev cX9_comes : ByteArray := prog_11_method_21_code
def yX9_comes : MethodName := ⟨RX9, "comes", "(I)Z"⟩
abbrev cX9_reads : ByteArray := prog_11_method_22_code
def yX9_reads : MethodName := ⟨RX9, "reads", "()I"⟩
abbrev cX9_town : ByteArray := prog_11_method_23_code
def yX9_town : MethodName := ⟨RX9, "town", "()I"⟩
abbrev cX9_wayOf : ByteArray := prog_11_method_24_code
def yX9_wayOf : MethodName := ⟨RX9, "wayOf", "(II)I"⟩
abbrev cX9_nearestOther : ByteArray := prog_11_method_25_code
def yX9_nearestOther : MethodName := ⟨RX9, "nearestOther", "(I)I"⟩
abbrev cX9_flies : ByteArray := prog_11_method_26_code
def yX9_flies : MethodName := ⟨RX9, "flies", "(I)I"⟩
abbrev cX9_valueOf : ByteArray := prog_11_method_27_code
def yX9_valueOf : MethodName := ⟨RX9, "valueOf", "(I)I"⟩
abbrev cX9_goesHome : ByteArray := prog_11_method_28_code
def yX9_goesHome : MethodName := ⟨RX9, "goesHome", "(II)V"⟩
abbrev cX9_layEggs : ByteArray := prog_11_method_29_code
def yX9_layEggs : MethodName := ⟨RX9, "layEggs", "()V"⟩
abbrev cX9_lostMany : ByteArray := prog_11_method_30_code
def yX9_lostMany : MethodName := ⟨RX9, "lostMany", "()I"⟩
abbrev cX9_goes : ByteArray := prog_11_method_31_code
def yX9_goes : MethodName := ⟨RX9, "goes", "()V"⟩
abbrev cX9_goesFor : ByteArray := prog_11_method_32_code
def yX9_goesFor : MethodName := ⟨RX9, "goesFor", "(I)V"⟩
abbrev cX9_purseOf : ByteArray := prog_11_method_33_code
def yX9_purseOf : MethodName := ⟨RX9, "purseOf", "(I)I"⟩
abbrev cX9_ownOf : ByteArray := prog_11_method_34_code
def yX9_ownOf : MethodName := ⟨RX9, "ownOf", "(I)I"⟩
abbrev cX9_loft : ByteArray := prog_11_method_35_code
def yX9_loft : MethodName := ⟨RX9, "loft", "(II)I"⟩
abbrev cX9_dove : ByteArray := prog_11_method_36_code
def yX9_dove : MethodName := ⟨RX9, "dove", "(II)I"⟩
abbrev cX9_open : ByteArray := prog_11_method_37_code
def yX9_open : MethodName := ⟨RX9, "open", "(II)I"⟩
abbrev cX9_hawk : ByteArray := prog_11_method_38_code
def yX9_hawk : MethodName := ⟨RX9, "hawk", "(I)I"⟩
abbrev cX9_carry : ByteArray := prog_11_method_39_code
def yX9_carry : MethodName := ⟨RX9, "carry", "(II)I"⟩
abbrev cX9_clip : ByteArray := prog_11_method_40_code
def yX9_clip : MethodName := ⟨RX9, "clip", "(II)I"⟩
abbrev cX9_go : ByteArray := prog_11_method_41_code
def yX9_go : MethodName := ⟨RX9, "go", "(I)I"⟩
abbrev cX9_dusk : ByteArray := prog_11_method_42_code
def yX9_dusk : MethodName := ⟨RX9, "dusk", "()I"⟩
abbrev cX9_way : ByteArray := prog_11_method_43_code
def yX9_way : MethodName := ⟨RX9, "way", "(II)I"⟩
abbrev cX9_purse : ByteArray := prog_11_method_44_code
def yX9_purse : MethodName := ⟨RX9, "purse", "(II)I"⟩
abbrev cX9_letting : ByteArray := prog_11_method_45_code
def yX9_letting : MethodName := ⟨RX9, "letting", "(I)I"⟩
abbrev cX9_areDoves : ByteArray := prog_11_method_46_code
def yX9_areDoves : MethodName := ⟨RX9, "areDoves", "(I)Z"⟩
abbrev cX9_staysOf : ByteArray := prog_11_method_47_code
def yX9_staysOf : MethodName := ⟨RX9, "staysOf", "(III)I"⟩
abbrev cX9_stays : ByteArray := prog_11_method_48_code
def yX9_stays : MethodName := ⟨RX9, "stays", "(III)I"⟩
abbrev cX9_worthNow : ByteArray := prog_11_method_49_code
def yX9_worthNow : MethodName := ⟨RX9, "worthNow", "(I)I"⟩
abbrev cX9_areAllIn : ByteArray := prog_11_method_50_code
def yX9_areAllIn : MethodName := ⟨RX9, "areAllIn", "(II)Z"⟩
abbrev cX9_cheapest : ByteArray := prog_11_method_51_code
def yX9_cheapest : MethodName := ⟨RX9, "cheapest", "(IIII)I"⟩
abbrev cX9_oneWith : ByteArray := prog_11_method_52_code
def yX9_oneWith : MethodName := ⟨RX9, "oneWith", "(II)I"⟩
abbrev cX9_near : ByteArray := prog_11_method_53_code
def yX9_near : MethodName := ⟨RX9, "near", "(II)I"⟩
abbrev cX9_whose : ByteArray := prog_11_method_54_code
def yX9_whose : MethodName := ⟨RX9, "whose", "(II)I"⟩
abbrev cX9_run : ByteArray := prog_11_method_55_code
def yX9_run : MethodName := ⟨RX9, "run", "(II)I"⟩
abbrev cX9_bestOpen : ByteArray := prog_11_method_56_code
def yX9_bestOpen : MethodName := ⟨RX9, "bestOpen", "(II)I"⟩
abbrev cX9_homing : ByteArray := prog_11_method_57_code
def yX9_homing : MethodName := ⟨RX9, "homing", "(I)I"⟩
abbrev cX9_spare : ByteArray := prog_11_method_58_code
def yX9_spare : MethodName := ⟨RX9, "spare", "(I)I"⟩
abbrev cX9_row : ByteArray := prog_11_method_59_code
def yX9_row : MethodName := ⟨RX9, "row", "(I)I"⟩
abbrev cX9_isAsTold : ByteArray := prog_11_method_60_code
def yX9_isAsTold : MethodName := ⟨RX9, "isAsTold", "()Z"⟩
abbrev cX9_paid : ByteArray := prog_11_method_61_code
def yX9_paid : MethodName := ⟨RX9, "paid", "(I)I"⟩
abbrev cX9_judge : ByteArray := prog_11_method_62_code
def yX9_judge : MethodName := ⟨RX9, "judge", "()I"⟩
abbrev cX9_seeds : ByteArray := prog_11_method_63_code
def yX9_seeds : MethodName := ⟨RX9, "seeds", "(III)I"⟩
abbrev cX9_image : ByteArray := prog_11_method_64_code
def yX9_image : MethodName := ⟨RX9, "image", "()I"⟩
abbrev cX9_on : ByteArray := prog_11_method_65_code
def yX9_on : MethodName := ⟨RX9, "on", "()I"⟩
abbrev cX9_count : ByteArray := prog_11_method_66_code
def yX9_count : MethodName := ⟨RX9, "count", "(I)I"⟩
def RJ11 : String := "java/lang/Character"
def TJ11 : u_T := fun k => match k with
  | _ => ("", "", "", false)
def tyJ11 : Nat → FieldType := fun k => match k with
  | _ => .int
abbrev cJ11_isValidCodePoint_9a6ad : ByteArray := prog_12_method_11_code
def yJ11_isValidCodePoint_9a6ad : MethodName := ⟨RJ11, "isValidCodePoint", "(I)Z"⟩
abbrev cJ11_highSurrogate_5068e : ByteArray := prog_12_method_28_code
def yJ11_highSurrogate_5068e : MethodName := ⟨RJ11, "highSurrogate", "(I)C"⟩
abbrev cJ11_lowSurrogate_5068e : ByteArray := prog_12_method_29_code
def yJ11_lowSurrogate_5068e : MethodName := ⟨RJ11, "lowSurrogate", "(I)C"⟩
def RJ6 : String := "java/lang/Integer"
def TJ6 : u_T := fun k => match k with
  | _ => ("", "", "", false)
def tyJ6 : Nat → FieldType := fun k => match k with
  | _ => .int
abbrev cJ6_bitCount_0f7a4 : ByteArray := prog_13_method_49_code
def yJ6_bitCount_0f7a4 : MethodName := ⟨RJ6, "bitCount", "(I)I"⟩
def RJ9 : String := "java/lang/Math"
def TJ9 : u_T := fun k => match k with
  | _ => ("", "", "", false)
def tyJ9 : Nat → FieldType := fun k => match k with
  | _ => .int
abbrev cJ9_max_7cf53 : ByteArray := prog_14_method_65_code
def yJ9_max_7cf53 : MethodName := ⟨RJ9, "max", "(II)I"⟩
abbrev cJ9_min_7cf53 : ByteArray := prog_14_method_69_code
def yJ9_min_7cf53 : MethodName := ⟨RJ9, "min", "(II)I"⟩
def RJ0 : String := "java/lang/String"
def TJ0 : u_T := fun k => match k with
  | _ => ("", "", "", false)
def tyJ0 : Nat → FieldType := fun k => match k with
  | _ => .int
abbrev cJ0_length_8abf5 : ByteArray := prog_15_method_54_code
def yJ0_length_8abf5 : MethodName := ⟨RJ0, "length", "()I"⟩
abbrev cJ0_isEmpty_aae02 : ByteArray := prog_15_method_55_code
def yJ0_isEmpty_aae02 : MethodName := ⟨RJ0, "isEmpty", "()Z"⟩
abbrev cJ0_charAt_5068e : ByteArray := prog_15_method_56_code
def yJ0_charAt_5068e : MethodName := ⟨RJ0, "charAt", "(I)C"⟩
abbrev cJ0_indexOf_0f7a4 : ByteArray := prog_15_method_79_code
def yJ0_indexOf_0f7a4 : MethodName := ⟨RJ0, "indexOf", "(I)I"⟩
abbrev cJ0_indexOf_7cf53 : ByteArray := prog_15_method_80_code
def yJ0_indexOf_7cf53 : MethodName := ⟨RJ0, "indexOf", "(II)I"⟩
abbrev cJ0_coder_7d493 : ByteArray := prog_15_method_152_code
def yJ0_coder_7d493 : MethodName := ⟨RJ0, "coder", "()B"⟩
abbrev cJ0_isLatin1_aae02 : ByteArray := prog_15_method_154_code
def yJ0_isLatin1_aae02 : MethodName := ⟨RJ0, "isLatin1", "()Z"⟩
abbrev cJ0_checkIndex_df160 : ByteArray := prog_15_method_155_code
def yJ0_checkIndex_df160 : MethodName := ⟨RJ0, "checkIndex", "(II)V"⟩
abbrev cJ0_checkBoundsBeginEnd_23922 : ByteArray := prog_15_method_158_code
def yJ0_checkBoundsBeginEnd_23922 : MethodName := ⟨RJ0, "checkBoundsBeginEnd", "(III)V"⟩
def RJ1 : String := "java/lang/StringLatin1"
def TJ1 : u_T := fun k => match k with
  | _ => ("", "", "", false)
def tyJ1 : Nat → FieldType := fun k => match k with
  | _ => .int
abbrev cJ1_charAt_3b067 : ByteArray := prog_16_method_2_code
def yJ1_charAt_3b067 : MethodName := ⟨RJ1, "charAt", "([BI)C"⟩
abbrev cJ1_canEncode_9a6ad : ByteArray := prog_16_method_4_code
def yJ1_canEncode_9a6ad : MethodName := ⟨RJ1, "canEncode", "(I)Z"⟩
abbrev cJ1_indexOf_4cfef : ByteArray := prog_16_method_22_code
def yJ1_indexOf_4cfef : MethodName := ⟨RJ1, "indexOf", "([BIII)I"⟩
abbrev cJ1_indexOfChar_4cfef : ByteArray := prog_16_method_23_code
def yJ1_indexOfChar_4cfef : MethodName := ⟨RJ1, "indexOfChar", "([BIII)I"⟩
def RJ2 : String := "java/lang/StringUTF16"
def TJ2 : u_T := fun k => match k with
  | _ => ("", "", "", false)
def tyJ2 : Nat → FieldType := fun k => match k with
  | _ => .int
abbrev cJ2_getChar_3b067 : ByteArray := prog_17_method_5_code
def yJ2_getChar_3b067 : MethodName := ⟨RJ2, "getChar", "([BI)C"⟩
abbrev cJ2_length_9d52b : ByteArray := prog_17_method_6_code
def yJ2_length_9d52b : MethodName := ⟨RJ2, "length", "([B)I"⟩
abbrev cJ2_indexOf_4cfef : ByteArray := prog_17_method_40_code
def yJ2_indexOf_4cfef : MethodName := ⟨RJ2, "indexOf", "([BIII)I"⟩
abbrev cJ2_indexOfChar_4cfef : ByteArray := prog_17_method_47_code
def yJ2_indexOfChar_4cfef : MethodName := ⟨RJ2, "indexOfChar", "([BIII)I"⟩
abbrev cJ2_indexOfCharUnsafe_4cfef : ByteArray := prog_17_method_48_code
def yJ2_indexOfCharUnsafe_4cfef : MethodName := ⟨RJ2, "indexOfCharUnsafe", "([BIII)I"⟩
abbrev cJ2_indexOfSupplementary_4cfef : ByteArray := prog_17_method_49_code
def yJ2_indexOfSupplementary_4cfef : MethodName := ⟨RJ2, "indexOfSupplementary", "([BIII)I"⟩
abbrev cJ2_charAt_3b067 : ByteArray := prog_17_method_83_code
def yJ2_charAt_3b067 : MethodName := ⟨RJ2, "charAt", "([BI)C"⟩
abbrev cJ2_checkIndex_2214a : ByteArray := prog_17_method_91_code
def yJ2_checkIndex_2214a : MethodName := ⟨RJ2, "checkIndex", "(I[B)V"⟩
abbrev cJ2_checkBoundsBeginEnd_d044e : ByteArray := prog_17_method_93_code
def yJ2_checkBoundsBeginEnd_d044e : MethodName := ⟨RJ2, "checkBoundsBeginEnd", "(II[B)V"⟩
def RJ10 : String := "java/lang/System"
def TJ10 : u_T := fun k => match k with
  | _ => ("", "", "", false)
def tyJ10 : Nat → FieldType := fun k => match k with
  | _ => .int
def RJ3 : String := "jdk/internal/util/Preconditions"
def TJ3 : u_T := fun k => match k with
  | _ => ("", "", "", false)
def tyJ3 : Nat → FieldType := fun k => match k with
  | _ => .int
abbrev cJ3_checkIndex_8e157 : ByteArray := prog_19_method_11_code
def yJ3_checkIndex_8e157 : MethodName := ⟨RJ3, "checkIndex", "(IILjava/util/function/BiFunction;)I"⟩
abbrev cJ3_checkFromToIndex_8c36e : ByteArray := prog_19_method_12_code
def yJ3_checkFromToIndex_8c36e : MethodName := ⟨RJ3, "checkFromToIndex", "(IIILjava/util/function/BiFunction;)I"⟩
def RL : String := "CoinsAreDovesLaw"
abbrev cL_law : ByteArray := code
def yL_law : MethodName := ⟨RL, "law", "([I)Z"⟩
abbrev vwCl : List vw_C := [(RX0, TX0, 0), (RX1, TX1, 0), (RX2, TX2, 0), (RX3, TX3, 0), (RX4, TX4, 0), (RX5, TX5, 2), (RX6, TX6, 13), (RX7, TX7, 0), (RX8, TX8, 10), (RX9, TX9, 12)]
