section
-- ===== PART A: goes FIRST, ahead of the names: the tables' words, and 'selects' of the private methods out of them =====
/-- a private method of a class that the tables say can be made, by its rows of tables_1 -/
def lw_okq (q : MethodName × Nat) : Prop := (q.1.cls ≠ "java/lang/invoke/MethodHandle" ∧ q.1.cls ≠ "java/lang/invoke/VarHandle") ∧ Cond.instantiable q.1.cls q.2 ∈ tables_1 ∧ Cond.privateMethod q.1 ∈ tables_1 ∧ Cond.instanceMethod q.1 ∈ tables_1
theorem lw_p0 : lw_okq (⟨"FiveRemotes$Plan", "tellCode", "(I)V"⟩, 5) := ⟨⟨by decide +kernel, by decide +kernel⟩, List.mem_of_getElem? (i := 90) (by decide +kernel), List.mem_of_getElem? (i := 246) (by decide +kernel), List.mem_of_getElem? (i := 247) (by decide +kernel)⟩
theorem lw_p1 : lw_okq (⟨"FiveRemotes$Plan", "shiftOf", "(I)I"⟩, 5) := ⟨⟨by decide +kernel, by decide +kernel⟩, List.mem_of_getElem? (i := 90) (by decide +kernel), List.mem_of_getElem? (i := 254) (by decide +kernel), List.mem_of_getElem? (i := 255) (by decide +kernel)⟩
theorem lw_p2 : lw_okq (⟨"FiveRemotes$Plan", "done", "(II)I"⟩, 5) := ⟨⟨by decide +kernel, by decide +kernel⟩, List.mem_of_getElem? (i := 90) (by decide +kernel), List.mem_of_getElem? (i := 264) (by decide +kernel), List.mem_of_getElem? (i := 265) (by decide +kernel)⟩
theorem lw_p3 : lw_okq (⟨"FiveRemotes$Plan", "with", "(III)I"⟩, 5) := ⟨⟨by decide +kernel, by decide +kernel⟩, List.mem_of_getElem? (i := 90) (by decide +kernel), List.mem_of_getElem? (i := 268) (by decide +kernel), List.mem_of_getElem? (i := 269) (by decide +kernel)⟩
theorem lw_p4 : lw_okq (⟨"FiveRemotes$Plan", "switched", "(II)I"⟩, 5) := ⟨⟨by decide +kernel, by decide +kernel⟩, List.mem_of_getElem? (i := 90) (by decide +kernel), List.mem_of_getElem? (i := 272) (by decide +kernel), List.mem_of_getElem? (i := 273) (by decide +kernel)⟩
theorem lw_p5 : lw_okq (⟨"FiveRemotes$Paths", "fillFromTheEnds", "(LFiveRemotes$Plan;)V"⟩, 5) := ⟨⟨by decide +kernel, by decide +kernel⟩, List.mem_of_getElem? (i := 118) (by decide +kernel), List.mem_of_getElem? (i := 295) (by decide +kernel), List.mem_of_getElem? (i := 296) (by decide +kernel)⟩
theorem lw_p6 : lw_okq (⟨"FiveRemotes$Reader", "readThing", "(LFiveRemotes$Text;I)I"⟩, 1) := ⟨⟨by decide +kernel, by decide +kernel⟩, List.mem_of_getElem? (i := 38) (by decide +kernel), List.mem_of_getElem? (i := 378) (by decide +kernel), List.mem_of_getElem? (i := 379) (by decide +kernel)⟩
theorem lw_p7 : lw_okq (⟨"FiveRemotes$Reader", "readButton", "(LFiveRemotes$Text;I)I"⟩, 1) := ⟨⟨by decide +kernel, by decide +kernel⟩, List.mem_of_getElem? (i := 38) (by decide +kernel), List.mem_of_getElem? (i := 388) (by decide +kernel), List.mem_of_getElem? (i := 389) (by decide +kernel)⟩
theorem lw_p8 : lw_okq (⟨"FiveRemotes$Reader", "mayBeExtra", "(III)Z"⟩, 1) := ⟨⟨by decide +kernel, by decide +kernel⟩, List.mem_of_getElem? (i := 38) (by decide +kernel), List.mem_of_getElem? (i := 392) (by decide +kernel), List.mem_of_getElem? (i := 393) (by decide +kernel)⟩
theorem lw_p9 : lw_okq (⟨"FiveRemotes", "rememberAct", "()V"⟩, 13) := ⟨⟨by decide +kernel, by decide +kernel⟩, List.mem_of_getElem? (i := 16) (by decide +kernel), List.mem_of_getElem? (i := 438) (by decide +kernel), List.mem_of_getElem? (i := 439) (by decide +kernel)⟩
theorem lw_p10 : lw_okq (⟨"FiveRemotes$Paths", "reachFrom", "(II)V"⟩, 5) := ⟨⟨by decide +kernel, by decide +kernel⟩, List.mem_of_getElem? (i := 118) (by decide +kernel), List.mem_of_getElem? (i := 527) (by decide +kernel), List.mem_of_getElem? (i := 528) (by decide +kernel)⟩
theorem lw_p11 : lw_okq (⟨"FiveRemotes", "firstShortest", "(I)I"⟩, 13) := ⟨⟨by decide +kernel, by decide +kernel⟩, List.mem_of_getElem? (i := 16) (by decide +kernel), List.mem_of_getElem? (i := 535) (by decide +kernel), List.mem_of_getElem? (i := 536) (by decide +kernel)⟩
theorem lw_p12 : lw_okq (⟨"FiveRemotes", "firstNearer", "(II)I"⟩, 13) := ⟨⟨by decide +kernel, by decide +kernel⟩, List.mem_of_getElem? (i := 16) (by decide +kernel), List.mem_of_getElem? (i := 539) (by decide +kernel), List.mem_of_getElem? (i := 540) (by decide +kernel)⟩
theorem lw_p13 : lw_okq (⟨"FiveRemotes", "reaches", "(II)Z"⟩, 13) := ⟨⟨by decide +kernel, by decide +kernel⟩, List.mem_of_getElem? (i := 16) (by decide +kernel), List.mem_of_getElem? (i := 578) (by decide +kernel), List.mem_of_getElem? (i := 579) (by decide +kernel)⟩
theorem lw_p14 : lw_okq (⟨"FiveRemotes$Seen", "narrowBy", "(LFiveRemotes$Plan;LFiveRemotes$Row;I)V"⟩, 6) := ⟨⟨by decide +kernel, by decide +kernel⟩, List.mem_of_getElem? (i := 194) (by decide +kernel), List.mem_of_getElem? (i := 613) (by decide +kernel), List.mem_of_getElem? (i := 614) (by decide +kernel)⟩
theorem lw_p15 : lw_okq (⟨"FiveRemotes", "thingsInOneState", "()I"⟩, 13) := ⟨⟨by decide +kernel, by decide +kernel⟩, List.mem_of_getElem? (i := 16) (by decide +kernel), List.mem_of_getElem? (i := 622) (by decide +kernel), List.mem_of_getElem? (i := 623) (by decide +kernel)⟩
def lw_privs_1 : List (MethodName × Nat) := [(⟨"FiveRemotes$Plan", "tellCode", "(I)V"⟩, 5), (⟨"FiveRemotes$Plan", "shiftOf", "(I)I"⟩, 5), (⟨"FiveRemotes$Plan", "done", "(II)I"⟩, 5), (⟨"FiveRemotes$Plan", "with", "(III)I"⟩, 5), (⟨"FiveRemotes$Plan", "switched", "(II)I"⟩, 5), (⟨"FiveRemotes$Paths", "fillFromTheEnds", "(LFiveRemotes$Plan;)V"⟩, 5), (⟨"FiveRemotes$Reader", "readThing", "(LFiveRemotes$Text;I)I"⟩, 1), (⟨"FiveRemotes$Reader", "readButton", "(LFiveRemotes$Text;I)I"⟩, 1), (⟨"FiveRemotes$Reader", "mayBeExtra", "(III)Z"⟩, 1), (⟨"FiveRemotes", "rememberAct", "()V"⟩, 13), (⟨"FiveRemotes$Paths", "reachFrom", "(II)V"⟩, 5), (⟨"FiveRemotes", "firstShortest", "(I)I"⟩, 13), (⟨"FiveRemotes", "firstNearer", "(II)I"⟩, 13), (⟨"FiveRemotes", "reaches", "(II)Z"⟩, 13), (⟨"FiveRemotes$Seen", "narrowBy", "(LFiveRemotes$Plan;LFiveRemotes$Row;I)V"⟩, 6), (⟨"FiveRemotes", "thingsInOneState", "()I"⟩, 13)]
theorem lw_r1 : ∀ q ∈ lw_privs_1, lw_okq q := List.forall_mem_cons.mpr ⟨lw_p0, List.forall_mem_cons.mpr ⟨lw_p1, List.forall_mem_cons.mpr ⟨lw_p2, List.forall_mem_cons.mpr ⟨lw_p3, List.forall_mem_cons.mpr ⟨lw_p4, List.forall_mem_cons.mpr ⟨lw_p5, List.forall_mem_cons.mpr ⟨lw_p6, List.forall_mem_cons.mpr ⟨lw_p7, List.forall_mem_cons.mpr ⟨lw_p8, List.forall_mem_cons.mpr ⟨lw_p9, List.forall_mem_cons.mpr ⟨lw_p10, List.forall_mem_cons.mpr ⟨lw_p11, List.forall_mem_cons.mpr ⟨lw_p12, List.forall_mem_cons.mpr ⟨lw_p13, List.forall_mem_cons.mpr ⟨lw_p14, List.forall_mem_cons.mpr ⟨lw_p15, fun _ h => absurd h List.not_mem_nil⟩⟩⟩⟩⟩⟩⟩⟩⟩⟩⟩⟩⟩⟩⟩⟩
theorem lw_p16 : lw_okq (⟨"FiveRemotes", "mostAlikeBehind", "(I)I"⟩, 13) := ⟨⟨by decide +kernel, by decide +kernel⟩, List.mem_of_getElem? (i := 16) (by decide +kernel), List.mem_of_getElem? (i := 630) (by decide +kernel), List.mem_of_getElem? (i := 631) (by decide +kernel)⟩
theorem lw_p17 : lw_okq (⟨"FiveRemotes", "ordersAround", "(I)I"⟩, 13) := ⟨⟨by decide +kernel, by decide +kernel⟩, List.mem_of_getElem? (i := 16) (by decide +kernel), List.mem_of_getElem? (i := 642) (by decide +kernel), List.mem_of_getElem? (i := 643) (by decide +kernel)⟩
theorem lw_p18 : lw_okq (⟨"FiveRemotes", "firstRests", "(IIII)Z"⟩, 13) := ⟨⟨by decide +kernel, by decide +kernel⟩, List.mem_of_getElem? (i := 16) (by decide +kernel), List.mem_of_getElem? (i := 658) (by decide +kernel), List.mem_of_getElem? (i := 659) (by decide +kernel)⟩
theorem lw_p19 : lw_okq (⟨"FiveRemotes", "lossOf", "(IIII)I"⟩, 13) := ⟨⟨by decide +kernel, by decide +kernel⟩, List.mem_of_getElem? (i := 16) (by decide +kernel), List.mem_of_getElem? (i := 662) (by decide +kernel), List.mem_of_getElem? (i := 663) (by decide +kernel)⟩
theorem lw_p20 : lw_okq (⟨"FiveRemotes", "behindChoice", "(II)I"⟩, 13) := ⟨⟨by decide +kernel, by decide +kernel⟩, List.mem_of_getElem? (i := 16) (by decide +kernel), List.mem_of_getElem? (i := 666) (by decide +kernel), List.mem_of_getElem? (i := 667) (by decide +kernel)⟩
theorem lw_p21 : lw_okq (⟨"FiveRemotes", "secondRests", "(IIII)Z"⟩, 13) := ⟨⟨by decide +kernel, by decide +kernel⟩, List.mem_of_getElem? (i := 16) (by decide +kernel), List.mem_of_getElem? (i := 676) (by decide +kernel), List.mem_of_getElem? (i := 677) (by decide +kernel)⟩
theorem lw_p22 : lw_okq (⟨"FiveRemotes", "tellChances", "(II)V"⟩, 13) := ⟨⟨by decide +kernel, by decide +kernel⟩, List.mem_of_getElem? (i := 16) (by decide +kernel), List.mem_of_getElem? (i := 684) (by decide +kernel), List.mem_of_getElem? (i := 685) (by decide +kernel)⟩
theorem lw_p23 : lw_okq (⟨"FiveRemotesModel", "readText", "()I"⟩, 34) := ⟨⟨by decide +kernel, by decide +kernel⟩, List.mem_of_getElem? (i := 715) (by decide +kernel), List.mem_of_getElem? (i := 841) (by decide +kernel), List.mem_of_getElem? (i := 842) (by decide +kernel)⟩
theorem lw_p24 : lw_okq (⟨"FiveRemotesModel", "readPart", "(I)V"⟩, 34) := ⟨⟨by decide +kernel, by decide +kernel⟩, List.mem_of_getElem? (i := 715) (by decide +kernel), List.mem_of_getElem? (i := 845) (by decide +kernel), List.mem_of_getElem? (i := 846) (by decide +kernel)⟩
theorem lw_p25 : lw_okq (⟨"FiveRemotesModel", "figureOf", "(I)I"⟩, 34) := ⟨⟨by decide +kernel, by decide +kernel⟩, List.mem_of_getElem? (i := 715) (by decide +kernel), List.mem_of_getElem? (i := 849) (by decide +kernel), List.mem_of_getElem? (i := 850) (by decide +kernel)⟩
theorem lw_p26 : lw_okq (⟨"FiveRemotesModel", "made", "(II)I"⟩, 34) := ⟨⟨by decide +kernel, by decide +kernel⟩, List.mem_of_getElem? (i := 715) (by decide +kernel), List.mem_of_getElem? (i := 861) (by decide +kernel), List.mem_of_getElem? (i := 862) (by decide +kernel)⟩
theorem lw_p27 : lw_okq (⟨"FiveRemotesModel", "stepped", "(II)I"⟩, 34) := ⟨⟨by decide +kernel, by decide +kernel⟩, List.mem_of_getElem? (i := 715) (by decide +kernel), List.mem_of_getElem? (i := 865) (by decide +kernel), List.mem_of_getElem? (i := 866) (by decide +kernel)⟩
theorem lw_p28 : lw_okq (⟨"FiveRemotesModel", "stateIn", "(II)I"⟩, 34) := ⟨⟨by decide +kernel, by decide +kernel⟩, List.mem_of_getElem? (i := 715) (by decide +kernel), List.mem_of_getElem? (i := 869) (by decide +kernel), List.mem_of_getElem? (i := 870) (by decide +kernel)⟩
theorem lw_p29 : lw_okq (⟨"FiveRemotesModel", "with", "(III)I"⟩, 34) := ⟨⟨by decide +kernel, by decide +kernel⟩, List.mem_of_getElem? (i := 715) (by decide +kernel), List.mem_of_getElem? (i := 873) (by decide +kernel), List.mem_of_getElem? (i := 874) (by decide +kernel)⟩
theorem lw_p30 : lw_okq (⟨"FiveRemotesModel", "isThing", "(I)Z"⟩, 34) := ⟨⟨by decide +kernel, by decide +kernel⟩, List.mem_of_getElem? (i := 715) (by decide +kernel), List.mem_of_getElem? (i := 881) (by decide +kernel), List.mem_of_getElem? (i := 882) (by decide +kernel)⟩
theorem lw_p31 : lw_okq (⟨"FiveRemotesModel", "isButton", "(I)Z"⟩, 34) := ⟨⟨by decide +kernel, by decide +kernel⟩, List.mem_of_getElem? (i := 715) (by decide +kernel), List.mem_of_getElem? (i := 889) (by decide +kernel), List.mem_of_getElem? (i := 890) (by decide +kernel)⟩
def lw_privs_2 : List (MethodName × Nat) := [(⟨"FiveRemotes", "mostAlikeBehind", "(I)I"⟩, 13), (⟨"FiveRemotes", "ordersAround", "(I)I"⟩, 13), (⟨"FiveRemotes", "firstRests", "(IIII)Z"⟩, 13), (⟨"FiveRemotes", "lossOf", "(IIII)I"⟩, 13), (⟨"FiveRemotes", "behindChoice", "(II)I"⟩, 13), (⟨"FiveRemotes", "secondRests", "(IIII)Z"⟩, 13), (⟨"FiveRemotes", "tellChances", "(II)V"⟩, 13), (⟨"FiveRemotesModel", "readText", "()I"⟩, 34), (⟨"FiveRemotesModel", "readPart", "(I)V"⟩, 34), (⟨"FiveRemotesModel", "figureOf", "(I)I"⟩, 34), (⟨"FiveRemotesModel", "made", "(II)I"⟩, 34), (⟨"FiveRemotesModel", "stepped", "(II)I"⟩, 34), (⟨"FiveRemotesModel", "stateIn", "(II)I"⟩, 34), (⟨"FiveRemotesModel", "with", "(III)I"⟩, 34), (⟨"FiveRemotesModel", "isThing", "(I)Z"⟩, 34), (⟨"FiveRemotesModel", "isButton", "(I)Z"⟩, 34)]
theorem lw_r2 : ∀ q ∈ lw_privs_2, lw_okq q := List.forall_mem_cons.mpr ⟨lw_p16, List.forall_mem_cons.mpr ⟨lw_p17, List.forall_mem_cons.mpr ⟨lw_p18, List.forall_mem_cons.mpr ⟨lw_p19, List.forall_mem_cons.mpr ⟨lw_p20, List.forall_mem_cons.mpr ⟨lw_p21, List.forall_mem_cons.mpr ⟨lw_p22, List.forall_mem_cons.mpr ⟨lw_p23, List.forall_mem_cons.mpr ⟨lw_p24, List.forall_mem_cons.mpr ⟨lw_p25, List.forall_mem_cons.mpr ⟨lw_p26, List.forall_mem_cons.mpr ⟨lw_p27, List.forall_mem_cons.mpr ⟨lw_p28, List.forall_mem_cons.mpr ⟨lw_p29, List.forall_mem_cons.mpr ⟨lw_p30, List.forall_mem_cons.mpr ⟨lw_p31, fun _ h => absurd h List.not_mem_nil⟩⟩⟩⟩⟩⟩⟩⟩⟩⟩⟩⟩⟩⟩⟩⟩
theorem lw_p32 : lw_okq (⟨"FiveRemotesModel", "keepAct", "()V"⟩, 34) := ⟨⟨by decide +kernel, by decide +kernel⟩, List.mem_of_getElem? (i := 715) (by decide +kernel), List.mem_of_getElem? (i := 897) (by decide +kernel), List.mem_of_getElem? (i := 898) (by decide +kernel)⟩
theorem lw_p33 : lw_okq (⟨"FiveRemotesModel", "figuresOf", "(I)I"⟩, 34) := ⟨⟨by decide +kernel, by decide +kernel⟩, List.mem_of_getElem? (i := 715) (by decide +kernel), List.mem_of_getElem? (i := 901) (by decide +kernel), List.mem_of_getElem? (i := 902) (by decide +kernel)⟩
theorem lw_p34 : lw_okq (⟨"FiveRemotesModel", "afterRow", "(III)I"⟩, 34) := ⟨⟨by decide +kernel, by decide +kernel⟩, List.mem_of_getElem? (i := 715) (by decide +kernel), List.mem_of_getElem? (i := 931) (by decide +kernel), List.mem_of_getElem? (i := 932) (by decide +kernel)⟩
theorem lw_p35 : lw_okq (⟨"FiveRemotesModel", "messOf", "(I)I"⟩, 34) := ⟨⟨by decide +kernel, by decide +kernel⟩, List.mem_of_getElem? (i := 715) (by decide +kernel), List.mem_of_getElem? (i := 943) (by decide +kernel), List.mem_of_getElem? (i := 944) (by decide +kernel)⟩
theorem lw_p36 : lw_okq (⟨"FiveRemotesModel", "every", "()I"⟩, 34) := ⟨⟨by decide +kernel, by decide +kernel⟩, List.mem_of_getElem? (i := 715) (by decide +kernel), List.mem_of_getElem? (i := 947) (by decide +kernel), List.mem_of_getElem? (i := 948) (by decide +kernel)⟩
theorem lw_p37 : lw_okq (⟨"FiveRemotesModel", "layFar", "(II)I"⟩, 34) := ⟨⟨by decide +kernel, by decide +kernel⟩, List.mem_of_getElem? (i := 715) (by decide +kernel), List.mem_of_getElem? (i := 951) (by decide +kernel), List.mem_of_getElem? (i := 952) (by decide +kernel)⟩
theorem lw_p38 : lw_okq (⟨"FiveRemotesModel", "reached", "(II)I"⟩, 34) := ⟨⟨by decide +kernel, by decide +kernel⟩, List.mem_of_getElem? (i := 715) (by decide +kernel), List.mem_of_getElem? (i := 959) (by decide +kernel), List.mem_of_getElem? (i := 960) (by decide +kernel)⟩
theorem lw_p39 : lw_okq (⟨"FiveRemotesModel", "isSure", "(III)Z"⟩, 34) := ⟨⟨by decide +kernel, by decide +kernel⟩, List.mem_of_getElem? (i := 715) (by decide +kernel), List.mem_of_getElem? (i := 967) (by decide +kernel), List.mem_of_getElem? (i := 968) (by decide +kernel)⟩
theorem lw_p40 : lw_okq (⟨"FiveRemotesModel", "mayBe", "(I)Z"⟩, 34) := ⟨⟨by decide +kernel, by decide +kernel⟩, List.mem_of_getElem? (i := 715) (by decide +kernel), List.mem_of_getElem? (i := 996) (by decide +kernel), List.mem_of_getElem? (i := 997) (by decide +kernel)⟩
theorem lw_p41 : lw_okq (⟨"FiveRemotesModel", "lightsOf", "(I)I"⟩, 34) := ⟨⟨by decide +kernel, by decide +kernel⟩, List.mem_of_getElem? (i := 715) (by decide +kernel), List.mem_of_getElem? (i := 1000) (by decide +kernel), List.mem_of_getElem? (i := 1001) (by decide +kernel)⟩
theorem lw_p42 : lw_okq (⟨"FiveRemotesModel", "greatest", "(I)I"⟩, 34) := ⟨⟨by decide +kernel, by decide +kernel⟩, List.mem_of_getElem? (i := 715) (by decide +kernel), List.mem_of_getElem? (i := 1008) (by decide +kernel), List.mem_of_getElem? (i := 1009) (by decide +kernel)⟩
theorem lw_p43 : lw_okq (⟨"FiveRemotesModel", "isRest", "(IIIIII)Z"⟩, 34) := ⟨⟨by decide +kernel, by decide +kernel⟩, List.mem_of_getElem? (i := 715) (by decide +kernel), List.mem_of_getElem? (i := 1026) (by decide +kernel), List.mem_of_getElem? (i := 1027) (by decide +kernel)⟩
theorem lw_p44 : lw_okq (⟨"FiveRemotesModel", "loses", "(IIIII)I"⟩, 34) := ⟨⟨by decide +kernel, by decide +kernel⟩, List.mem_of_getElem? (i := 715) (by decide +kernel), List.mem_of_getElem? (i := 1030) (by decide +kernel), List.mem_of_getElem? (i := 1031) (by decide +kernel)⟩
def lw_privs_3 : List (MethodName × Nat) := [(⟨"FiveRemotesModel", "keepAct", "()V"⟩, 34), (⟨"FiveRemotesModel", "figuresOf", "(I)I"⟩, 34), (⟨"FiveRemotesModel", "afterRow", "(III)I"⟩, 34), (⟨"FiveRemotesModel", "messOf", "(I)I"⟩, 34), (⟨"FiveRemotesModel", "every", "()I"⟩, 34), (⟨"FiveRemotesModel", "layFar", "(II)I"⟩, 34), (⟨"FiveRemotesModel", "reached", "(II)I"⟩, 34), (⟨"FiveRemotesModel", "isSure", "(III)Z"⟩, 34), (⟨"FiveRemotesModel", "mayBe", "(I)Z"⟩, 34), (⟨"FiveRemotesModel", "lightsOf", "(I)I"⟩, 34), (⟨"FiveRemotesModel", "greatest", "(I)I"⟩, 34), (⟨"FiveRemotesModel", "isRest", "(IIIIII)Z"⟩, 34), (⟨"FiveRemotesModel", "loses", "(IIIII)I"⟩, 34)]
theorem lw_r3 : ∀ q ∈ lw_privs_3, lw_okq q := List.forall_mem_cons.mpr ⟨lw_p32, List.forall_mem_cons.mpr ⟨lw_p33, List.forall_mem_cons.mpr ⟨lw_p34, List.forall_mem_cons.mpr ⟨lw_p35, List.forall_mem_cons.mpr ⟨lw_p36, List.forall_mem_cons.mpr ⟨lw_p37, List.forall_mem_cons.mpr ⟨lw_p38, List.forall_mem_cons.mpr ⟨lw_p39, List.forall_mem_cons.mpr ⟨lw_p40, List.forall_mem_cons.mpr ⟨lw_p41, List.forall_mem_cons.mpr ⟨lw_p42, List.forall_mem_cons.mpr ⟨lw_p43, List.forall_mem_cons.mpr ⟨lw_p44, fun _ h => absurd h List.not_mem_nil⟩⟩⟩⟩⟩⟩⟩⟩⟩⟩⟩⟩⟩
def lw_privs : List (MethodName × Nat) := lw_privs_1 ++ (lw_privs_2 ++ (lw_privs_3))
def lw_tbl : List Cond := k2_sels lw_privs ++ tables_1
theorem lw_privs_ok : ∀ q ∈ lw_privs, lw_okq q := by
  show ∀ q ∈ lw_privs_1 ++ (lw_privs_2 ++ (lw_privs_3)), lw_okq q
  exact List.forall_mem_append.mpr ⟨lw_r1, List.forall_mem_append.mpr ⟨lw_r2, lw_r3⟩⟩

def RX0 : String := "FiveRemotes$Parts"
def TX0 : u_T := fun k => match k with
  | 0 => ("FiveRemotes$Parts", "things", "I", false)
  | 1 => ("FiveRemotes$Parts", "buttons", "I", false)
  | 2 => ("FiveRemotes$Parts", "states", "[I", true)
  | 3 => ("FiveRemotes$Parts", "firsts", "[I", true)
  | 4 => ("FiveRemotes$Parts", "targets", "[I", true)
  | 5 => ("FiveRemotes$Parts", "kinds", "[I", true)
  | _ => ("FiveRemotes$Parts", "extras", "[I", true)
def tyX0 : Nat → FieldType := fun k => match k with
  | 0 => .int
  | 1 => .int
  | 2 => .array .int
  | 3 => .array .int
  | 4 => .array .int
  | 5 => .array .int
  | _ => .array .int
abbrev wsX00 : List Cond := u_ws RX0 TX0 7
theorem nmX0 : ∀ a, a < 7 → ∀ b, b < 7 → a ≠ b → (TX0 a).2.1 ≠ (TX0 b).2.1 := by decide +kernel
theorem tyX0_ok : ∀ k, k < 7 → parseFieldDescriptor (TX0 k).2.2.1 = some (tyX0 k) := by decide +kernel
abbrev cX0_init : ByteArray := prog_2_method_1_code
def yX0_init : MethodName := ⟨RX0, "<init>", "()V"⟩
abbrev cX0_addThing : ByteArray := prog_2_method_2_code
def yX0_addThing : MethodName := ⟨RX0, "addThing", "(II)V"⟩
abbrev cX0_addButton : ByteArray := prog_2_method_3_code
def yX0_addButton : MethodName := ⟨RX0, "addButton", "(III)V"⟩
abbrev cX0_copy : ByteArray := prog_2_method_4_code
def yX0_copy : MethodName := ⟨RX0, "copy", "(LFiveRemotes$Parts;)V"⟩
def RX1 : String := "FiveRemotes$Paths"
def TX1 : u_T := fun k => match k with
  | 0 => ("FiveRemotes$Paths", "starts", "[I", true)
  | 1 => ("FiveRemotes$Paths", "edges", "[I", true)
  | 2 => ("FiveRemotes$Paths", "distances", "[I", true)
  | 3 => ("FiveRemotes$Paths", "reached", "[I", true)
  | _ => ("FiveRemotes$Paths", "many", "I", false)
def tyX1 : Nat → FieldType := fun k => match k with
  | 0 => .array .int
  | 1 => .array .int
  | 2 => .array .int
  | 3 => .array .int
  | _ => .int
abbrev wsX10 : List Cond := u_ws RX1 TX1 5
theorem nmX1 : ∀ a, a < 5 → ∀ b, b < 5 → a ≠ b → (TX1 a).2.1 ≠ (TX1 b).2.1 := by decide +kernel
theorem tyX1_ok : ∀ k, k < 5 → parseFieldDescriptor (TX1 k).2.2.1 = some (tyX1 k) := by decide +kernel
abbrev cX1_init : ByteArray := prog_3_method_1_code
def yX1_init : MethodName := ⟨RX1, "<init>", "()V"⟩
abbrev cX1_make : ByteArray := prog_3_method_2_code
def yX1_make : MethodName := ⟨RX1, "make", "(LFiveRemotes$Plan;)V"⟩
abbrev cX1_fillFromTheEnds : ByteArray := prog_3_method_3_code
def yX1_fillFromTheEnds : MethodName := ⟨RX1, "fillFromTheEnds", "(LFiveRemotes$Plan;)V"⟩
abbrev cX1_spread : ByteArray := prog_3_method_4_code
def yX1_spread : MethodName := ⟨RX1, "spread", "(II)I"⟩
abbrev cX1_reachFrom : ByteArray := prog_3_method_5_code
def yX1_reachFrom : MethodName := ⟨RX1, "reachFrom", "(II)V"⟩
abbrev cX1_distanceOf : ByteArray := prog_3_method_6_code
def yX1_distanceOf : MethodName := ⟨RX1, "distanceOf", "(I)I"⟩
abbrev cX1_greatestDistance : ByteArray := prog_3_method_7_code
def yX1_greatestDistance : MethodName := ⟨RX1, "greatestDistance", "()I"⟩
def RX2 : String := "FiveRemotes$Plan"
def TX2 : u_T := fun k => match k with
  | 0 => ("FiveRemotes$Plan", "parts", "LFiveRemotes$Parts;", true)
  | 1 => ("FiveRemotes$Plan", "messes", "[I", true)
  | 2 => ("FiveRemotes$Plan", "lights", "[I", true)
  | 3 => ("FiveRemotes$Plan", "nexts", "[I", true)
  | _ => ("FiveRemotes$Plan", "codes", "I", false)
def tyX2 : Nat → FieldType := fun k => match k with
  | 0 => .object "FiveRemotes$Parts"
  | 1 => .array .int
  | 2 => .array .int
  | 3 => .array .int
  | _ => .int
abbrev wsX20 : List Cond := u_ws RX2 TX2 5
theorem nmX2 : ∀ a, a < 5 → ∀ b, b < 5 → a ≠ b → (TX2 a).2.1 ≠ (TX2 b).2.1 := by decide +kernel
theorem tyX2_ok : ∀ k, k < 5 → parseFieldDescriptor (TX2 k).2.2.1 = some (tyX2 k) := by decide +kernel
abbrev cX2_init : ByteArray := prog_4_method_1_code
def yX2_init : MethodName := ⟨RX2, "<init>", "()V"⟩
abbrev cX2_make : ByteArray := prog_4_method_2_code
def yX2_make : MethodName := ⟨RX2, "make", "(LFiveRemotes$Parts;)V"⟩
abbrev cX2_tellCode : ByteArray := prog_4_method_3_code
def yX2_tellCode : MethodName := ⟨RX2, "tellCode", "(I)V"⟩
abbrev cX2_done : ByteArray := prog_4_method_4_code
def yX2_done : MethodName := ⟨RX2, "done", "(II)I"⟩
abbrev cX2_switched : ByteArray := prog_4_method_5_code
def yX2_switched : MethodName := ⟨RX2, "switched", "(II)I"⟩
abbrev cX2_stepped : ByteArray := prog_4_method_6_code
def yX2_stepped : MethodName := ⟨RX2, "stepped", "(II)I"⟩
abbrev cX2_with : ByteArray := prog_4_method_7_code
def yX2_with : MethodName := ⟨RX2, "with", "(III)I"⟩
abbrev cX2_shiftOf : ByteArray := prog_4_method_8_code
def yX2_shiftOf : MethodName := ⟨RX2, "shiftOf", "(I)I"⟩
abbrev cX2_stateIn : ByteArray := prog_4_method_9_code
def yX2_stateIn : MethodName := ⟨RX2, "stateIn", "(II)I"⟩
abbrev cX2_firstCode : ByteArray := prog_4_method_10_code
def yX2_firstCode : MethodName := ⟨RX2, "firstCode", "()I"⟩
abbrev cX2_codeOf : ByteArray := prog_4_method_11_code
def yX2_codeOf : MethodName := ⟨RX2, "codeOf", "(I)I"⟩
abbrev cX2_behind : ByteArray := prog_4_method_12_code
def yX2_behind : MethodName := ⟨RX2, "behind", "(II)I"⟩
abbrev cX2_isReal : ByteArray := prog_4_method_13_code
def yX2_isReal : MethodName := ⟨RX2, "isReal", "(I)Z"⟩
abbrev cX2_messOf : ByteArray := prog_4_method_14_code
def yX2_messOf : MethodName := ⟨RX2, "messOf", "(I)I"⟩
abbrev cX2_lightsIn : ByteArray := prog_4_method_15_code
def yX2_lightsIn : MethodName := ⟨RX2, "lightsIn", "(I)I"⟩
abbrev cX2_things : ByteArray := prog_4_method_16_code
def yX2_things : MethodName := ⟨RX2, "things", "()I"⟩
abbrev cX2_buttons : ByteArray := prog_4_method_17_code
def yX2_buttons : MethodName := ⟨RX2, "buttons", "()I"⟩
abbrev cX2_everyButton : ByteArray := prog_4_method_18_code
def yX2_everyButton : MethodName := ⟨RX2, "everyButton", "()I"⟩
abbrev cX2_hasThing : ByteArray := prog_4_method_19_code
def yX2_hasThing : MethodName := ⟨RX2, "hasThing", "(I)Z"⟩
abbrev cX2_hasButton : ByteArray := prog_4_method_20_code
def yX2_hasButton : MethodName := ⟨RX2, "hasButton", "(I)Z"⟩
abbrev cX2_statesOf : ByteArray := prog_4_method_21_code
def yX2_statesOf : MethodName := ⟨RX2, "statesOf", "(I)I"⟩
def RX3 : String := "FiveRemotes$Reader"
def TX3 : u_T := fun k => match k with
  | _ => ("FiveRemotes$Reader", "told", "LFiveRemotes$Parts;", true)
def tyX3 : Nat → FieldType := fun k => match k with
  | _ => .object "FiveRemotes$Parts"
abbrev wsX30 : List Cond := u_ws RX3 TX3 1
theorem nmX3 : ∀ a, a < 1 → ∀ b, b < 1 → a ≠ b → (TX3 a).2.1 ≠ (TX3 b).2.1 := by decide +kernel
theorem tyX3_ok : ∀ k, k < 1 → parseFieldDescriptor (TX3 k).2.2.1 = some (tyX3 k) := by decide +kernel
abbrev cX3_init : ByteArray := prog_5_method_1_code
def yX3_init : MethodName := ⟨RX3, "<init>", "()V"⟩
abbrev cX3_firstFault : ByteArray := prog_5_method_2_code
def yX3_firstFault : MethodName := ⟨RX3, "firstFault", "(LFiveRemotes$Text;)I"⟩
abbrev cX3_readThing : ByteArray := prog_5_method_3_code
def yX3_readThing : MethodName := ⟨RX3, "readThing", "(LFiveRemotes$Text;I)I"⟩
abbrev cX3_readButton : ByteArray := prog_5_method_4_code
def yX3_readButton : MethodName := ⟨RX3, "readButton", "(LFiveRemotes$Text;I)I"⟩
abbrev cX3_mayBeExtra : ByteArray := prog_5_method_5_code
def yX3_mayBeExtra : MethodName := ⟨RX3, "mayBeExtra", "(III)Z"⟩
def RX4 : String := "FiveRemotes$Row"
def TX4 : u_T := fun k => match k with
  | 0 => ("FiveRemotes$Row", "figures", "[I", true)
  | _ => ("FiveRemotes$Row", "length", "I", false)
def tyX4 : Nat → FieldType := fun k => match k with
  | 0 => .array .int
  | _ => .int
abbrev wsX40 : List Cond := u_ws RX4 TX4 2
theorem nmX4 : ∀ a, a < 2 → ∀ b, b < 2 → a ≠ b → (TX4 a).2.1 ≠ (TX4 b).2.1 := by decide +kernel
theorem tyX4_ok : ∀ k, k < 2 → parseFieldDescriptor (TX4 k).2.2.1 = some (tyX4 k) := by decide +kernel
abbrev cX4_init : ByteArray := prog_6_method_1_code
def yX4_init : MethodName := ⟨RX4, "<init>", "()V"⟩
abbrev cX4_read : ByteArray := prog_6_method_2_code
def yX4_read : MethodName := ⟨RX4, "read", "(II)V"⟩
abbrev cX4_buttonAt : ByteArray := prog_6_method_3_code
def yX4_buttonAt : MethodName := ⟨RX4, "buttonAt", "(I)I"⟩
abbrev cX4_isKnownTo : ByteArray := prog_6_method_4_code
def yX4_isKnownTo : MethodName := ⟨RX4, "isKnownTo", "(LFiveRemotes$Plan;)Z"⟩
abbrev cX4_behind : ByteArray := prog_6_method_5_code
def yX4_behind : MethodName := ⟨RX4, "behind", "(LFiveRemotes$Plan;I)I"⟩
abbrev cX4_bringsAll : ByteArray := prog_6_method_6_code
def yX4_bringsAll : MethodName := ⟨RX4, "bringsAll", "(LFiveRemotes$Plan;I)Z"⟩
def RX5 : String := "FiveRemotes$Seen"
def TX5 : u_T := fun k => match k with
  | 0 => ("FiveRemotes$Seen", "lengths", "[I", true)
  | 1 => ("FiveRemotes$Seen", "rows", "[I", true)
  | 2 => ("FiveRemotes$Seen", "lights", "[I", true)
  | 3 => ("FiveRemotes$Seen", "codes", "[I", true)
  | 4 => ("FiveRemotes$Seen", "count", "I", false)
  | _ => ("FiveRemotes$Seen", "left", "I", false)
def tyX5 : Nat → FieldType := fun k => match k with
  | 0 => .array .int
  | 1 => .array .int
  | 2 => .array .int
  | 3 => .array .int
  | 4 => .int
  | _ => .int
abbrev wsX50 : List Cond := u_ws RX5 TX5 6
theorem nmX5 : ∀ a, a < 6 → ∀ b, b < 6 → a ≠ b → (TX5 a).2.1 ≠ (TX5 b).2.1 := by decide +kernel
theorem tyX5_ok : ∀ k, k < 6 → parseFieldDescriptor (TX5 k).2.2.1 = some (tyX5 k) := by decide +kernel
abbrev cX5_init : ByteArray := prog_7_method_1_code
def yX5_init : MethodName := ⟨RX5, "<init>", "()V"⟩
abbrev cX5_add : ByteArray := prog_7_method_2_code
def yX5_add : MethodName := ⟨RX5, "add", "(III)V"⟩
abbrev cX5_narrow : ByteArray := prog_7_method_3_code
def yX5_narrow : MethodName := ⟨RX5, "narrow", "(LFiveRemotes$Plan;LFiveRemotes$Row;)V"⟩
abbrev cX5_narrowBy : ByteArray := prog_7_method_4_code
def yX5_narrowBy : MethodName := ⟨RX5, "narrowBy", "(LFiveRemotes$Plan;LFiveRemotes$Row;I)V"⟩
def RX6 : String := "FiveRemotes$Shelf"
def TX6 : u_T := fun k => match k with
  | 0 => ("FiveRemotes$Shelf", "is", "[I", true)
  | 1 => ("FiveRemotes$Shelf", "believed", "[I", true)
  | _ => ("FiveRemotes$Shelf", "presses", "[I", true)
def tyX6 : Nat → FieldType := fun k => match k with
  | 0 => .array .int
  | 1 => .array .int
  | _ => .array .int
abbrev wsX60 : List Cond := u_ws RX6 TX6 3
theorem nmX6 : ∀ a, a < 3 → ∀ b, b < 3 → a ≠ b → (TX6 a).2.1 ≠ (TX6 b).2.1 := by decide +kernel
theorem tyX6_ok : ∀ k, k < 3 → parseFieldDescriptor (TX6 k).2.2.1 = some (tyX6 k) := by decide +kernel
abbrev cX6_init : ByteArray := prog_8_method_1_code
def yX6_init : MethodName := ⟨RX6, "<init>", "(I)V"⟩
abbrev cX6_store : ByteArray := prog_8_method_2_code
def yX6_store : MethodName := ⟨RX6, "store", "(ILFiveRemotes$Standing;)V"⟩
abbrev cX6_fetch : ByteArray := prog_8_method_3_code
def yX6_fetch : MethodName := ⟨RX6, "fetch", "(ILFiveRemotes$Standing;)V"⟩
abbrev cX6_holds : ByteArray := prog_8_method_4_code
def yX6_holds : MethodName := ⟨RX6, "holds", "(I)Z"⟩
abbrev cX6_empty : ByteArray := prog_8_method_5_code
def yX6_empty : MethodName := ⟨RX6, "empty", "()V"⟩
abbrev cX6_forgetFirst : ByteArray := prog_8_method_6_code
def yX6_forgetFirst : MethodName := ⟨RX6, "forgetFirst", "()V"⟩
def RX7 : String := "FiveRemotes$Standing"
def TX7 : u_T := fun k => match k with
  | 0 => ("FiveRemotes$Standing", "is", "I", false)
  | 1 => ("FiveRemotes$Standing", "believed", "I", false)
  | _ => ("FiveRemotes$Standing", "presses", "I", false)
def tyX7 : Nat → FieldType := fun k => match k with
  | 0 => .int
  | 1 => .int
  | _ => .int
abbrev wsX70 : List Cond := u_ws RX7 TX7 3
theorem nmX7 : ∀ a, a < 3 → ∀ b, b < 3 → a ≠ b → (TX7 a).2.1 ≠ (TX7 b).2.1 := by decide +kernel
theorem tyX7_ok : ∀ k, k < 3 → parseFieldDescriptor (TX7 k).2.2.1 = some (tyX7 k) := by decide +kernel
abbrev cX7_init : ByteArray := prog_9_method_1_code
def yX7_init : MethodName := ⟨RX7, "<init>", "()V"⟩
def RX8 : String := "FiveRemotes$Text"
def TX8 : u_T := fun k => match k with
  | 0 => ("FiveRemotes$Text", "letters", "[I", true)
  | _ => ("FiveRemotes$Text", "length", "I", false)
def tyX8 : Nat → FieldType := fun k => match k with
  | 0 => .array .int
  | _ => .int
abbrev wsX80 : List Cond := u_ws RX8 TX8 2
theorem nmX8 : ∀ a, a < 2 → ∀ b, b < 2 → a ≠ b → (TX8 a).2.1 ≠ (TX8 b).2.1 := by decide +kernel
theorem tyX8_ok : ∀ k, k < 2 → parseFieldDescriptor (TX8 k).2.2.1 = some (tyX8 k) := by decide +kernel
abbrev cX8_init : ByteArray := prog_10_method_1_code
def yX8_init : MethodName := ⟨RX8, "<init>", "()V"⟩
abbrev cX8_size : ByteArray := prog_10_method_2_code
def yX8_size : MethodName := ⟨RX8, "size", "()I"⟩
abbrev cX8_isFull : ByteArray := prog_10_method_3_code
def yX8_isFull : MethodName := ⟨RX8, "isFull", "()Z"⟩
abbrev cX8_append : ByteArray := prog_10_method_4_code
def yX8_append : MethodName := ⟨RX8, "append", "(I)V"⟩
abbrev cX8_empty : ByteArray := prog_10_method_5_code
def yX8_empty : MethodName := ⟨RX8, "empty", "()V"⟩
abbrev cX8_letterAt : ByteArray := prog_10_method_6_code
def yX8_letterAt : MethodName := ⟨RX8, "letterAt", "(I)I"⟩
abbrev cX8_figureAt : ByteArray := prog_10_method_7_code
def yX8_figureAt : MethodName := ⟨RX8, "figureAt", "(I)I"⟩
def RX9 : String := "FiveRemotes"
def TX9 : u_T := fun k => match k with
  | 0 => ("FiveRemotes", "text", "LFiveRemotes$Text;", true)
  | 1 => ("FiveRemotes", "reader", "LFiveRemotes$Reader;", true)
  | 2 => ("FiveRemotes", "plan", "LFiveRemotes$Plan;", true)
  | 3 => ("FiveRemotes", "paths", "LFiveRemotes$Paths;", true)
  | 4 => ("FiveRemotes", "presses", "LFiveRemotes$Row;", true)
  | 5 => ("FiveRemotes", "now", "LFiveRemotes$Standing;", true)
  | 6 => ("FiveRemotes", "acts", "LFiveRemotes$Shelf;", true)
  | 7 => ("FiveRemotes", "slots", "LFiveRemotes$Shelf;", true)
  | 8 => ("FiveRemotes", "seen", "LFiveRemotes$Seen;", true)
  | 9 => ("FiveRemotes", "likeLights", "[I", true)
  | 10 => ("FiveRemotes", "chances", "[I", true)
  | 11 => ("FiveRemotes", "actCount", "I", false)
  | _ => ("FiveRemotes", "theSeed", "J", false)
def tyX9 : Nat → FieldType := fun k => match k with
  | 0 => .object "FiveRemotes$Text"
  | 1 => .object "FiveRemotes$Reader"
  | 2 => .object "FiveRemotes$Plan"
  | 3 => .object "FiveRemotes$Paths"
  | 4 => .object "FiveRemotes$Row"
  | 5 => .object "FiveRemotes$Standing"
  | 6 => .object "FiveRemotes$Shelf"
  | 7 => .object "FiveRemotes$Shelf"
  | 8 => .object "FiveRemotes$Seen"
  | 9 => .array .int
  | 10 => .array .int
  | 11 => .int
  | _ => .long
abbrev wsX90 : List Cond := u_ws RX9 TX9 13
theorem nmX9 : ∀ a, a < 13 → ∀ b, b < 13 → a ≠ b → (TX9 a).2.1 ≠ (TX9 b).2.1 := by decide +kernel
theorem tyX9_ok : ∀ k, k < 13 → parseFieldDescriptor (TX9 k).2.2.1 = some (tyX9 k) := by decide +kernel
abbrev cX9_init : ByteArray := prog_1_method_1_code
def yX9_init : MethodName := ⟨RX9, "<init>", "()V"⟩
abbrev cX9_write : ByteArray := prog_1_method_2_code
def yX9_write : MethodName := ⟨RX9, "write", "(I)I"⟩
abbrev cX9_wipe : ByteArray := prog_1_method_3_code
def yX9_wipe : MethodName := ⟨RX9, "wipe", "()I"⟩
abbrev cX9_fault : ByteArray := prog_1_method_4_code
def yX9_fault : MethodName := ⟨RX9, "fault", "()I"⟩
abbrev cX9_room : ByteArray := prog_1_method_5_code
def yX9_room : MethodName := ⟨RX9, "room", "()I"⟩
abbrev cX9_thing : ByteArray := prog_1_method_6_code
def yX9_thing : MethodName := ⟨RX9, "thing", "(II)I"⟩
abbrev cX9_button : ByteArray := prog_1_method_7_code
def yX9_button : MethodName := ⟨RX9, "button", "(II)I"⟩
abbrev cX9_press : ByteArray := prog_1_method_8_code
def yX9_press : MethodName := ⟨RX9, "press", "(I)I"⟩
abbrev cX9_miss : ByteArray := prog_1_method_9_code
def yX9_miss : MethodName := ⟨RX9, "miss", "(I)I"⟩
abbrev cX9_step : ByteArray := prog_1_method_10_code
def yX9_step : MethodName := ⟨RX9, "step", "(I)I"⟩
abbrev cX9_find : ByteArray := prog_1_method_11_code
def yX9_find : MethodName := ⟨RX9, "find", "()I"⟩
abbrev cX9_undo : ByteArray := prog_1_method_12_code
def yX9_undo : MethodName := ⟨RX9, "undo", "()I"⟩
abbrev cX9_after : ByteArray := prog_1_method_13_code
def yX9_after : MethodName := ⟨RX9, "after", "(II)I"⟩
abbrev cX9_all : ByteArray := prog_1_method_14_code
def yX9_all : MethodName := ⟨RX9, "all", "()I"⟩
abbrev cX9_fewest : ByteArray := prog_1_method_15_code
def yX9_fewest : MethodName := ⟨RX9, "fewest", "(IZ)I"⟩
abbrev cX9_worst : ByteArray := prog_1_method_16_code
def yX9_worst : MethodName := ⟨RX9, "worst", "(II)I"⟩
abbrev cX9_sure : ByteArray := prog_1_method_17_code
def yX9_sure : MethodName := ⟨RX9, "sure", "(IZ)I"⟩
abbrev cX9_needed : ByteArray := prog_1_method_18_code
def yX9_needed : MethodName := ⟨RX9, "needed", "(I)I"⟩
abbrev cX9_judge : ByteArray := prog_1_method_19_code
def yX9_judge : MethodName := ⟨RX9, "judge", "(II)I"⟩
abbrev cX9_see : ByteArray := prog_1_method_20_code
def yX9_see : MethodName := ⟨RX9, "see", "(III)I"⟩
abbrev cX9_unsee : ByteArray := prog_1_method_21_code
def yX9_unsee : MethodName := ⟨RX9, "unsee", "()I"⟩
abbrev cX9_may : ByteArray := prog_1_method_22_code
def yX9_may : MethodName := ⟨RX9, "may", "(I)I"⟩
abbrev cX9_tells : ByteArray := prog_1_method_23_code
def yX9_tells : MethodName := ⟨RX9, "tells", "(Z)I"⟩
abbrev cX9_share : ByteArray := prog_1_method_24_code
def yX9_share : MethodName := ⟨RX9, "share", "(IIZ)I"⟩
abbrev cX9_rests : ByteArray := prog_1_method_25_code
def yX9_rests : MethodName := ⟨RX9, "rests", "(IIIII)I"⟩
abbrev cX9_weak : ByteArray := prog_1_method_26_code
def yX9_weak : MethodName := ⟨RX9, "weak", "(IIIIZ)I"⟩
abbrev cX9_seed : ByteArray := prog_1_method_27_code
def yX9_seed : MethodName := ⟨RX9, "seed", "(J)J"⟩
abbrev cX9_evenings : ByteArray := prog_1_method_28_code
def yX9_evenings : MethodName := ⟨RX9, "evenings", "(I)I"⟩
abbrev cX9_keep : ByteArray := prog_1_method_29_code
def yX9_keep : MethodName := ⟨RX9, "keep", "(I)I"⟩
abbrev cX9_again : ByteArray := prog_1_method_30_code
def yX9_again : MethodName := ⟨RX9, "again", "(I)I"⟩
abbrev cX9_count : ByteArray := prog_1_method_31_code
def yX9_count : MethodName := ⟨RX9, "count", "(I)I"⟩
abbrev cX9_rememberAct : ByteArray := prog_1_method_32_code
def yX9_rememberAct : MethodName := ⟨RX9, "rememberAct", "()V"⟩
abbrev cX9_firstShortest : ByteArray := prog_1_method_33_code
def yX9_firstShortest : MethodName := ⟨RX9, "firstShortest", "(I)I"⟩
abbrev cX9_firstNearer : ByteArray := prog_1_method_34_code
def yX9_firstNearer : MethodName := ⟨RX9, "firstNearer", "(II)I"⟩
abbrev cX9_reaches : ByteArray := prog_1_method_35_code
def yX9_reaches : MethodName := ⟨RX9, "reaches", "(II)Z"⟩
abbrev cX9_thingsInOneState : ByteArray := prog_1_method_36_code
def yX9_thingsInOneState : MethodName := ⟨RX9, "thingsInOneState", "()I"⟩
abbrev cX9_mostAlikeBehind : ByteArray := prog_1_method_37_code
def yX9_mostAlikeBehind : MethodName := ⟨RX9, "mostAlikeBehind", "(I)I"⟩
abbrev cX9_ordersAround : ByteArray := prog_1_method_38_code
def yX9_ordersAround : MethodName := ⟨RX9, "ordersAround", "(I)I"⟩
abbrev cX9_firstRests : ByteArray := prog_1_method_39_code
def yX9_firstRests : MethodName := ⟨RX9, "firstRests", "(IIII)Z"⟩
abbrev cX9_secondRests : ByteArray := prog_1_method_40_code
def yX9_secondRests : MethodName := ⟨RX9, "secondRests", "(IIII)Z"⟩
abbrev cX9_lossOf : ByteArray := prog_1_method_41_code
def yX9_lossOf : MethodName := ⟨RX9, "lossOf", "(IIII)I"⟩
abbrev cX9_behindChoice : ByteArray := prog_1_method_42_code
def yX9_behindChoice : MethodName := ⟨RX9, "behindChoice", "(II)I"⟩
abbrev cX9_priceOf : ByteArray := prog_1_method_43_code
def yX9_priceOf : MethodName := ⟨RX9, "priceOf", "(I)I"⟩
abbrev cX9_tellChances : ByteArray := prog_1_method_44_code
def yX9_tellChances : MethodName := ⟨RX9, "tellChances", "(II)V"⟩
abbrev cX9_fraction : ByteArray := prog_1_method_45_code
def yX9_fraction : MethodName := ⟨RX9, "fraction", "(IIZ)I"⟩
abbrev cX9_commonDivisor : ByteArray := prog_1_method_46_code
def yX9_commonDivisor : MethodName := ⟨RX9, "commonDivisor", "(II)I"⟩
abbrev cX9_isRow : ByteArray := prog_1_method_47_code
def yX9_isRow : MethodName := ⟨RX9, "isRow", "(II)Z"⟩
abbrev cX9_figuresOf : ByteArray := prog_1_method_48_code
def yX9_figuresOf : MethodName := ⟨RX9, "figuresOf", "(I)I"⟩
abbrev cX9_at : ByteArray := prog_1_method_49_code
def yX9_at : MethodName := ⟨RX9, "at", "([II)I"⟩
abbrev cX9_put : ByteArray := prog_1_method_50_code
def yX9_put : MethodName := ⟨RX9, "put", "([III)V"⟩
def RX10 : String := "FiveRemotesModel"
def TX10 : u_T := fun k => match k with
  | 0 => ("FiveRemotesModel", "things", "I", false)
  | 1 => ("FiveRemotesModel", "buttons", "I", false)
  | 2 => ("FiveRemotesModel", "messes", "I", false)
  | 3 => ("FiveRemotesModel", "size", "[I", true)
  | 4 => ("FiveRemotesModel", "unit", "[I", true)
  | 5 => ("FiveRemotesModel", "of", "[I", true)
  | 6 => ("FiveRemotesModel", "kind", "[I", true)
  | 7 => ("FiveRemotesModel", "arg", "[I", true)
  | 8 => ("FiveRemotesModel", "table", "[I", true)
  | 9 => ("FiveRemotesModel", "mess", "I", false)
  | 10 => ("FiveRemotesModel", "believed", "I", false)
  | 11 => ("FiveRemotesModel", "presses", "I", false)
  | 12 => ("FiveRemotesModel", "readSize", "[I", true)
  | 13 => ("FiveRemotesModel", "readAt", "[I", true)
  | 14 => ("FiveRemotesModel", "readButton", "[I", true)
  | 15 => ("FiveRemotesModel", "readThings", "I", false)
  | 16 => ("FiveRemotesModel", "readButtons", "I", false)
  | 17 => ("FiveRemotesModel", "text", "[I", true)
  | 18 => ("FiveRemotesModel", "length", "I", false)
  | 19 => ("FiveRemotesModel", "at", "I", false)
  | 20 => ("FiveRemotesModel", "faultAt", "I", false)
  | 21 => ("FiveRemotesModel", "acts", "I", false)
  | 22 => ("FiveRemotesModel", "next", "I", false)
  | 23 => ("FiveRemotesModel", "row", "[I", true)
  | 24 => ("FiveRemotesModel", "far", "[I", true)
  | 25 => ("FiveRemotesModel", "seen", "I", false)
  | 26 => ("FiveRemotesModel", "seenLong", "[I", true)
  | 27 => ("FiveRemotesModel", "seenRow", "[I", true)
  | 28 => ("FiveRemotesModel", "seenLights", "[I", true)
  | 29 => ("FiveRemotesModel", "groups", "[I", true)
  | 30 => ("FiveRemotesModel", "reaches", "[I", true)
  | 31 => ("FiveRemotesModel", "seed", "J", false)
  | 32 => ("FiveRemotesModel", "isKept", "[Z", true)
  | _ => ("FiveRemotesModel", "kept", "[I", true)
def tyX10 : Nat → FieldType := fun k => match k with
  | 0 => .int
  | 1 => .int
  | 2 => .int
  | 3 => .array .int
  | 4 => .array .int
  | 5 => .array .int
  | 6 => .array .int
  | 7 => .array .int
  | 8 => .array .int
  | 9 => .int
  | 10 => .int
  | 11 => .int
  | 12 => .array .int
  | 13 => .array .int
  | 14 => .array .int
  | 15 => .int
  | 16 => .int
  | 17 => .array .int
  | 18 => .int
  | 19 => .int
  | 20 => .int
  | 21 => .int
  | 22 => .int
  | 23 => .array .int
  | 24 => .array .int
  | 25 => .int
  | 26 => .array .int
  | 27 => .array .int
  | 28 => .array .int
  | 29 => .array .int
  | 30 => .array .int
  | 31 => .long
  | 32 => .array .boolean
  | _ => .array .int
abbrev wsX100 : List Cond := u_ws RX10 TX10 34
theorem nmX10 : ∀ a, a < 34 → ∀ b, b < 34 → a ≠ b → (TX10 a).2.1 ≠ (TX10 b).2.1 := by decide +kernel
theorem tyX10_ok : ∀ k, k < 34 → parseFieldDescriptor (TX10 k).2.2.1 = some (tyX10 k) := by decide +kernel
abbrev cX10_init : ByteArray := prog_12_method_1_code
def yX10_init : MethodName := ⟨RX10, "<init>", "()V"⟩
abbrev cX10_in : ByteArray := prog_12_method_3_code
def yX10_in : MethodName := ⟨RX10, "in", "(JJJ)Z"⟩
abbrev cX10_has : ByteArray := prog_12_method_4_code
def yX10_has : MethodName := ⟨RX10, "has", "(II)Z"⟩
abbrev cX10_ones : ByteArray := prog_12_method_5_code
def yX10_ones : MethodName := ⟨RX10, "ones", "(I)I"⟩
abbrev cX10_write : ByteArray := prog_12_method_6_code
def yX10_write : MethodName := ⟨RX10, "write", "(I)I"⟩
abbrev cX10_wipe : ByteArray := prog_12_method_7_code
def yX10_wipe : MethodName := ⟨RX10, "wipe", "()I"⟩
abbrev cX10_figureOf : ByteArray := prog_12_method_8_code
def yX10_figureOf : MethodName := ⟨RX10, "figureOf", "(I)I"⟩
abbrev cX10_readText : ByteArray := prog_12_method_9_code
def yX10_readText : MethodName := ⟨RX10, "readText", "()I"⟩
abbrev cX10_readPart : ByteArray := prog_12_method_10_code
def yX10_readPart : MethodName := ⟨RX10, "readPart", "(I)V"⟩
abbrev cX10_fault : ByteArray := prog_12_method_11_code
def yX10_fault : MethodName := ⟨RX10, "fault", "()I"⟩
abbrev cX10_room : ByteArray := prog_12_method_12_code
def yX10_room : MethodName := ⟨RX10, "room", "()I"⟩
abbrev cX10_stateIn : ByteArray := prog_12_method_13_code
def yX10_stateIn : MethodName := ⟨RX10, "stateIn", "(II)I"⟩
abbrev cX10_with : ByteArray := prog_12_method_14_code
def yX10_with : MethodName := ⟨RX10, "with", "(III)I"⟩
abbrev cX10_stepped : ByteArray := prog_12_method_15_code
def yX10_stepped : MethodName := ⟨RX10, "stepped", "(II)I"⟩
abbrev cX10_made : ByteArray := prog_12_method_16_code
def yX10_made : MethodName := ⟨RX10, "made", "(II)I"⟩
abbrev cX10_figuresOf : ByteArray := prog_12_method_17_code
def yX10_figuresOf : MethodName := ⟨RX10, "figuresOf", "(I)I"⟩
abbrev cX10_lightsOf : ByteArray := prog_12_method_18_code
def yX10_lightsOf : MethodName := ⟨RX10, "lightsOf", "(I)I"⟩
abbrev cX10_messOf : ByteArray := prog_12_method_19_code
def yX10_messOf : MethodName := ⟨RX10, "messOf", "(I)I"⟩
abbrev cX10_isThing : ByteArray := prog_12_method_20_code
def yX10_isThing : MethodName := ⟨RX10, "isThing", "(I)Z"⟩
abbrev cX10_isButton : ByteArray := prog_12_method_21_code
def yX10_isButton : MethodName := ⟨RX10, "isButton", "(I)Z"⟩
abbrev cX10_thing : ByteArray := prog_12_method_22_code
def yX10_thing : MethodName := ⟨RX10, "thing", "(II)I"⟩
abbrev cX10_button : ByteArray := prog_12_method_23_code
def yX10_button : MethodName := ⟨RX10, "button", "(II)I"⟩
abbrev cX10_keepAct : ByteArray := prog_12_method_24_code
def yX10_keepAct : MethodName := ⟨RX10, "keepAct", "()V"⟩
abbrev cX10_press : ByteArray := prog_12_method_25_code
def yX10_press : MethodName := ⟨RX10, "press", "(I)I"⟩
abbrev cX10_miss : ByteArray := prog_12_method_26_code
def yX10_miss : MethodName := ⟨RX10, "miss", "(I)I"⟩
abbrev cX10_step : ByteArray := prog_12_method_27_code
def yX10_step : MethodName := ⟨RX10, "step", "(I)I"⟩
abbrev cX10_find : ByteArray := prog_12_method_28_code
def yX10_find : MethodName := ⟨RX10, "find", "()I"⟩
abbrev cX10_undo : ByteArray := prog_12_method_29_code
def yX10_undo : MethodName := ⟨RX10, "undo", "()I"⟩
abbrev cX10_tenTo : ByteArray := prog_12_method_30_code
def yX10_tenTo : MethodName := ⟨RX10, "tenTo", "(I)I"⟩
abbrev cX10_afterRow : ByteArray := prog_12_method_31_code
def yX10_afterRow : MethodName := ⟨RX10, "afterRow", "(III)I"⟩
abbrev cX10_isRow : ByteArray := prog_12_method_32_code
def yX10_isRow : MethodName := ⟨RX10, "isRow", "(IIII)Z"⟩
abbrev cX10_after : ByteArray := prog_12_method_33_code
def yX10_after : MethodName := ⟨RX10, "after", "(II)I"⟩
abbrev cX10_all : ByteArray := prog_12_method_34_code
def yX10_all : MethodName := ⟨RX10, "all", "()I"⟩
abbrev cX10_layFar : ByteArray := prog_12_method_35_code
def yX10_layFar : MethodName := ⟨RX10, "layFar", "(II)I"⟩
abbrev cX10_every : ByteArray := prog_12_method_36_code
def yX10_every : MethodName := ⟨RX10, "every", "()I"⟩
abbrev cX10_fewest : ByteArray := prog_12_method_37_code
def yX10_fewest : MethodName := ⟨RX10, "fewest", "(IZ)I"⟩
abbrev cX10_reached : ByteArray := prog_12_method_38_code
def yX10_reached : MethodName := ⟨RX10, "reached", "(II)I"⟩
abbrev cX10_worst : ByteArray := prog_12_method_39_code
def yX10_worst : MethodName := ⟨RX10, "worst", "(II)I"⟩
abbrev cX10_isSure : ByteArray := prog_12_method_40_code
def yX10_isSure : MethodName := ⟨RX10, "isSure", "(III)Z"⟩
abbrev cX10_sure : ByteArray := prog_12_method_41_code
def yX10_sure : MethodName := ⟨RX10, "sure", "(IZ)I"⟩
abbrev cX10_needed : ByteArray := prog_12_method_42_code
def yX10_needed : MethodName := ⟨RX10, "needed", "(I)I"⟩
abbrev cX10_judge : ByteArray := prog_12_method_43_code
def yX10_judge : MethodName := ⟨RX10, "judge", "(II)I"⟩
abbrev cX10_see : ByteArray := prog_12_method_44_code
def yX10_see : MethodName := ⟨RX10, "see", "(III)I"⟩
abbrev cX10_unsee : ByteArray := prog_12_method_45_code
def yX10_unsee : MethodName := ⟨RX10, "unsee", "()I"⟩
abbrev cX10_mayBe : ByteArray := prog_12_method_46_code
def yX10_mayBe : MethodName := ⟨RX10, "mayBe", "(I)Z"⟩
abbrev cX10_may : ByteArray := prog_12_method_47_code
def yX10_may : MethodName := ⟨RX10, "may", "(I)I"⟩
abbrev cX10_greatest : ByteArray := prog_12_method_48_code
def yX10_greatest : MethodName := ⟨RX10, "greatest", "(I)I"⟩
abbrev cX10_tells : ByteArray := prog_12_method_49_code
def yX10_tells : MethodName := ⟨RX10, "tells", "(Z)I"⟩
abbrev cX10_factorial : ByteArray := prog_12_method_50_code
def yX10_factorial : MethodName := ⟨RX10, "factorial", "(I)I"⟩
abbrev cX10_common : ByteArray := prog_12_method_51_code
def yX10_common : MethodName := ⟨RX10, "common", "(II)I"⟩
abbrev cX10_share : ByteArray := prog_12_method_52_code
def yX10_share : MethodName := ⟨RX10, "share", "(IIZ)I"⟩
abbrev cX10_apart : ByteArray := prog_12_method_53_code
def yX10_apart : MethodName := ⟨RX10, "apart", "(II)I"⟩
abbrev cX10_loses : ByteArray := prog_12_method_54_code
def yX10_loses : MethodName := ⟨RX10, "loses", "(IIIII)I"⟩
abbrev cX10_isRest : ByteArray := prog_12_method_55_code
def yX10_isRest : MethodName := ⟨RX10, "isRest", "(IIIIII)Z"⟩
abbrev cX10_rests : ByteArray := prog_12_method_56_code
def yX10_rests : MethodName := ⟨RX10, "rests", "(IIIII)I"⟩
abbrev cX10_weak : ByteArray := prog_12_method_57_code
def yX10_weak : MethodName := ⟨RX10, "weak", "(IIIIZ)I"⟩
abbrev cX10_seed : ByteArray := prog_12_method_58_code
def yX10_seed : MethodName := ⟨RX10, "seed", "(J)J"⟩
abbrev cX10_evenings : ByteArray := prog_12_method_59_code
def yX10_evenings : MethodName := ⟨RX10, "evenings", "(I)I"⟩
abbrev cX10_keep : ByteArray := prog_12_method_60_code
def yX10_keep : MethodName := ⟨RX10, "keep", "(I)I"⟩
abbrev cX10_again : ByteArray := prog_12_method_61_code
def yX10_again : MethodName := ⟨RX10, "again", "(I)I"⟩
abbrev cX10_count : ByteArray := prog_12_method_62_code
def yX10_count : MethodName := ⟨RX10, "count", "(I)I"⟩
def RJ6 : String := "java/lang/Integer"
def TJ6 : u_T := fun k => match k with
  | _ => ("", "", "", false)
def tyJ6 : Nat → FieldType := fun k => match k with
  | _ => .int
theorem nmJ6 : ∀ a, a < 0 → ∀ b, b < 0 → a ≠ b → (TJ6 a).2.1 ≠ (TJ6 b).2.1 := by decide +kernel
theorem tyJ6_ok : ∀ k, k < 0 → parseFieldDescriptor (TJ6 k).2.2.1 = some (tyJ6 k) := by decide +kernel
abbrev cJ6_bitCount_0f7a4 : ByteArray := prog_13_method_49_code
def yJ6_bitCount_0f7a4 : MethodName := ⟨RJ6, "bitCount", "(I)I"⟩
def RJ9 : String := "java/lang/Math"
def TJ9 : u_T := fun k => match k with
  | _ => ("", "", "", false)
def tyJ9 : Nat → FieldType := fun k => match k with
  | _ => .int
theorem nmJ9 : ∀ a, a < 0 → ∀ b, b < 0 → a ≠ b → (TJ9 a).2.1 ≠ (TJ9 b).2.1 := by decide +kernel
theorem tyJ9_ok : ∀ k, k < 0 → parseFieldDescriptor (TJ9 k).2.2.1 = some (tyJ9 k) := by decide +kernel
abbrev cJ9_abs_0f7a4 : ByteArray := prog_14_method_59_code
def yJ9_abs_0f7a4 : MethodName := ⟨RJ9, "abs", "(I)I"⟩
abbrev cJ9_max_7cf53 : ByteArray := prog_14_method_65_code
def yJ9_max_7cf53 : MethodName := ⟨RJ9, "max", "(II)I"⟩
def RJ7 : String := "java/util/Arrays"
def TJ7 : u_T := fun k => match k with
  | _ => ("", "", "", false)
def tyJ7 : Nat → FieldType := fun k => match k with
  | _ => .int
theorem nmJ7 : ∀ a, a < 0 → ∀ b, b < 0 → a ≠ b → (TJ7 a).2.1 ≠ (TJ7 b).2.1 := by decide +kernel
theorem tyJ7_ok : ∀ k, k < 0 → parseFieldDescriptor (TJ7 k).2.2.1 = some (tyJ7 k) := by decide +kernel
abbrev cJ7_fill_53178 : ByteArray := prog_15_method_103_code
def yJ7_fill_53178 : MethodName := ⟨RJ7, "fill", "([II)V"⟩
def RL : String := "FiveRemotesLaw"
abbrev cL_law : ByteArray := code
def yL_law : MethodName := ⟨RL, "law", "([I)Z"⟩
theorem dX0_init_0 : decode cX0_init 0 = .ok (.aload_n 0, 1) := by decide +kernel
theorem dX0_init_1 : decode cX0_init 1 = .ok (.invokespecial 3, 3) := by decide +kernel
theorem dX0_init_4 : decode cX0_init 4 = .ok (.aload_n 0, 1) := by decide +kernel
theorem dX0_init_5 : decode cX0_init 5 = .ok (.iconst 4, 1) := by decide +kernel
theorem dX0_init_6 : decode cX0_init 6 = .ok (.newarray .int, 2) := by decide +kernel
theorem dX0_init_8 : decode cX0_init 8 = .ok (.putfield 9, 3) := by decide +kernel
theorem dX0_init_11 : decode cX0_init 11 = .ok (.aload_n 0, 1) := by decide +kernel
theorem dX0_init_12 : decode cX0_init 12 = .ok (.iconst 4, 1) := by decide +kernel
theorem dX0_init_13 : decode cX0_init 13 = .ok (.newarray .int, 2) := by decide +kernel
theorem dX0_init_15 : decode cX0_init 15 = .ok (.putfield 15, 3) := by decide +kernel
theorem dX0_init_18 : decode cX0_init 18 = .ok (.aload_n 0, 1) := by decide +kernel
theorem dX0_init_19 : decode cX0_init 19 = .ok (.bipush 6, 2) := by decide +kernel
theorem dX0_init_21 : decode cX0_init 21 = .ok (.newarray .int, 2) := by decide +kernel
theorem dX0_init_23 : decode cX0_init 23 = .ok (.putfield 18, 3) := by decide +kernel
theorem dX0_init_26 : decode cX0_init 26 = .ok (.aload_n 0, 1) := by decide +kernel
theorem dX0_init_27 : decode cX0_init 27 = .ok (.bipush 6, 2) := by decide +kernel
theorem dX0_init_29 : decode cX0_init 29 = .ok (.newarray .int, 2) := by decide +kernel
theorem dX0_init_31 : decode cX0_init 31 = .ok (.putfield 21, 3) := by decide +kernel
theorem dX0_init_34 : decode cX0_init 34 = .ok (.aload_n 0, 1) := by decide +kernel
theorem dX0_init_35 : decode cX0_init 35 = .ok (.bipush 6, 2) := by decide +kernel
theorem dX0_init_37 : decode cX0_init 37 = .ok (.newarray .int, 2) := by decide +kernel
theorem dX0_init_39 : decode cX0_init 39 = .ok (.putfield 24, 3) := by decide +kernel
theorem dX0_init_42 : decode cX0_init 42 = .ok (.return_, 1) := by decide +kernel
theorem dX0_addThing_0 : decode cX0_addThing 0 = .ok (.aload_n 0, 1) := by decide +kernel
theorem dX0_addThing_1 : decode cX0_addThing 1 = .ok (.getfield 9, 3) := by decide +kernel
theorem dX0_addThing_4 : decode cX0_addThing 4 = .ok (.aload_n 0, 1) := by decide +kernel
theorem dX0_addThing_5 : decode cX0_addThing 5 = .ok (.getfield 27, 3) := by decide +kernel
theorem dX0_addThing_8 : decode cX0_addThing 8 = .ok (.iload_n 1, 1) := by decide +kernel
theorem dX0_addThing_9 : decode cX0_addThing 9 = .ok (.invokestatic 31, 3) := by decide +kernel
theorem dX0_addThing_12 : decode cX0_addThing 12 = .ok (.aload_n 0, 1) := by decide +kernel
theorem dX0_addThing_13 : decode cX0_addThing 13 = .ok (.getfield 15, 3) := by decide +kernel
theorem dX0_addThing_16 : decode cX0_addThing 16 = .ok (.aload_n 0, 1) := by decide +kernel
theorem dX0_addThing_17 : decode cX0_addThing 17 = .ok (.getfield 27, 3) := by decide +kernel
theorem dX0_addThing_20 : decode cX0_addThing 20 = .ok (.iload_n 2, 1) := by decide +kernel
theorem dX0_addThing_21 : decode cX0_addThing 21 = .ok (.invokestatic 31, 3) := by decide +kernel
theorem dX0_addThing_24 : decode cX0_addThing 24 = .ok (.aload_n 0, 1) := by decide +kernel
theorem dX0_addThing_25 : decode cX0_addThing 25 = .ok (.dup, 1) := by decide +kernel
theorem dX0_addThing_26 : decode cX0_addThing 26 = .ok (.getfield 27, 3) := by decide +kernel
theorem dX0_addThing_29 : decode cX0_addThing 29 = .ok (.iconst 1, 1) := by decide +kernel
theorem dX0_addThing_30 : decode cX0_addThing 30 = .ok (.iadd, 1) := by decide +kernel
theorem dX0_addThing_31 : decode cX0_addThing 31 = .ok (.putfield 27, 3) := by decide +kernel
theorem dX0_addThing_34 : decode cX0_addThing 34 = .ok (.return_, 1) := by decide +kernel
theorem dX0_addButton_0 : decode cX0_addButton 0 = .ok (.aload_n 0, 1) := by decide +kernel
theorem dX0_addButton_1 : decode cX0_addButton 1 = .ok (.getfield 18, 3) := by decide +kernel
theorem dX0_addButton_4 : decode cX0_addButton 4 = .ok (.aload_n 0, 1) := by decide +kernel
theorem dX0_addButton_5 : decode cX0_addButton 5 = .ok (.getfield 35, 3) := by decide +kernel
theorem dX0_addButton_8 : decode cX0_addButton 8 = .ok (.iload_n 1, 1) := by decide +kernel
theorem dX0_addButton_9 : decode cX0_addButton 9 = .ok (.invokestatic 31, 3) := by decide +kernel
theorem dX0_addButton_12 : decode cX0_addButton 12 = .ok (.aload_n 0, 1) := by decide +kernel
theorem dX0_addButton_13 : decode cX0_addButton 13 = .ok (.getfield 21, 3) := by decide +kernel
theorem dX0_addButton_16 : decode cX0_addButton 16 = .ok (.aload_n 0, 1) := by decide +kernel
theorem dX0_addButton_17 : decode cX0_addButton 17 = .ok (.getfield 35, 3) := by decide +kernel
theorem dX0_addButton_20 : decode cX0_addButton 20 = .ok (.iload_n 2, 1) := by decide +kernel
theorem dX0_addButton_21 : decode cX0_addButton 21 = .ok (.invokestatic 31, 3) := by decide +kernel
theorem dX0_addButton_24 : decode cX0_addButton 24 = .ok (.aload_n 0, 1) := by decide +kernel
theorem dX0_addButton_25 : decode cX0_addButton 25 = .ok (.getfield 24, 3) := by decide +kernel
theorem dX0_addButton_28 : decode cX0_addButton 28 = .ok (.aload_n 0, 1) := by decide +kernel
theorem dX0_addButton_29 : decode cX0_addButton 29 = .ok (.getfield 35, 3) := by decide +kernel
theorem dX0_addButton_32 : decode cX0_addButton 32 = .ok (.iload_n 3, 1) := by decide +kernel
theorem dX0_addButton_33 : decode cX0_addButton 33 = .ok (.invokestatic 31, 3) := by decide +kernel
theorem dX0_addButton_36 : decode cX0_addButton 36 = .ok (.aload_n 0, 1) := by decide +kernel
theorem dX0_addButton_37 : decode cX0_addButton 37 = .ok (.dup, 1) := by decide +kernel
theorem dX0_addButton_38 : decode cX0_addButton 38 = .ok (.getfield 35, 3) := by decide +kernel
theorem dX0_addButton_41 : decode cX0_addButton 41 = .ok (.iconst 1, 1) := by decide +kernel
theorem dX0_addButton_42 : decode cX0_addButton 42 = .ok (.iadd, 1) := by decide +kernel
theorem dX0_addButton_43 : decode cX0_addButton 43 = .ok (.putfield 35, 3) := by decide +kernel
theorem dX0_addButton_46 : decode cX0_addButton 46 = .ok (.return_, 1) := by decide +kernel
theorem dX0_copy_0 : decode cX0_copy 0 = .ok (.aload_n 0, 1) := by decide +kernel
theorem dX0_copy_1 : decode cX0_copy 1 = .ok (.iconst 0, 1) := by decide +kernel
theorem dX0_copy_2 : decode cX0_copy 2 = .ok (.putfield 27, 3) := by decide +kernel
theorem dX0_copy_5 : decode cX0_copy 5 = .ok (.aload_n 0, 1) := by decide +kernel
theorem dX0_copy_6 : decode cX0_copy 6 = .ok (.iconst 0, 1) := by decide +kernel
theorem dX0_copy_7 : decode cX0_copy 7 = .ok (.putfield 35, 3) := by decide +kernel
theorem dX0_copy_10 : decode cX0_copy 10 = .ok (.iconst 0, 1) := by decide +kernel
theorem dX0_copy_11 : decode cX0_copy 11 = .ok (.istore_n 2, 1) := by decide +kernel
theorem dX0_copy_12 : decode cX0_copy 12 = .ok (.iload_n 2, 1) := by decide +kernel
theorem dX0_copy_13 : decode cX0_copy 13 = .ok (.aload_n 1, 1) := by decide +kernel
theorem dX0_copy_14 : decode cX0_copy 14 = .ok (.getfield 27, 3) := by decide +kernel
theorem dX0_copy_17 : decode cX0_copy 17 = .ok (.if_icmp .ge 29, 3) := by decide +kernel
theorem dX0_copy_20 : decode cX0_copy 20 = .ok (.aload_n 0, 1) := by decide +kernel
theorem dX0_copy_21 : decode cX0_copy 21 = .ok (.aload_n 1, 1) := by decide +kernel
theorem dX0_copy_22 : decode cX0_copy 22 = .ok (.getfield 9, 3) := by decide +kernel
theorem dX0_copy_25 : decode cX0_copy 25 = .ok (.iload_n 2, 1) := by decide +kernel
theorem dX0_copy_26 : decode cX0_copy 26 = .ok (.invokestatic 38, 3) := by decide +kernel
theorem dX0_copy_29 : decode cX0_copy 29 = .ok (.aload_n 1, 1) := by decide +kernel
theorem dX0_copy_30 : decode cX0_copy 30 = .ok (.getfield 15, 3) := by decide +kernel
theorem dX0_copy_33 : decode cX0_copy 33 = .ok (.iload_n 2, 1) := by decide +kernel
theorem dX0_copy_34 : decode cX0_copy 34 = .ok (.invokestatic 38, 3) := by decide +kernel
theorem dX0_copy_37 : decode cX0_copy 37 = .ok (.invokevirtual 42, 3) := by decide +kernel
theorem dX0_copy_40 : decode cX0_copy 40 = .ok (.iinc 2 1, 3) := by decide +kernel
theorem dX0_copy_43 : decode cX0_copy 43 = .ok (.goto (-31), 3) := by decide +kernel
theorem dX0_copy_46 : decode cX0_copy 46 = .ok (.iconst 0, 1) := by decide +kernel
theorem dX0_copy_47 : decode cX0_copy 47 = .ok (.istore_n 2, 1) := by decide +kernel
theorem dX0_copy_48 : decode cX0_copy 48 = .ok (.iload_n 2, 1) := by decide +kernel
theorem dX0_copy_49 : decode cX0_copy 49 = .ok (.aload_n 1, 1) := by decide +kernel
theorem dX0_copy_50 : decode cX0_copy 50 = .ok (.getfield 35, 3) := by decide +kernel
theorem dX0_copy_53 : decode cX0_copy 53 = .ok (.if_icmp .ge 37, 3) := by decide +kernel
theorem dX0_copy_56 : decode cX0_copy 56 = .ok (.aload_n 0, 1) := by decide +kernel
theorem dX0_copy_57 : decode cX0_copy 57 = .ok (.aload_n 1, 1) := by decide +kernel
theorem dX0_copy_58 : decode cX0_copy 58 = .ok (.getfield 18, 3) := by decide +kernel
theorem dX0_copy_61 : decode cX0_copy 61 = .ok (.iload_n 2, 1) := by decide +kernel
theorem dX0_copy_62 : decode cX0_copy 62 = .ok (.invokestatic 38, 3) := by decide +kernel
theorem dX0_copy_65 : decode cX0_copy 65 = .ok (.aload_n 1, 1) := by decide +kernel
theorem dX0_copy_66 : decode cX0_copy 66 = .ok (.getfield 21, 3) := by decide +kernel
theorem dX0_copy_69 : decode cX0_copy 69 = .ok (.iload_n 2, 1) := by decide +kernel
theorem dX0_copy_70 : decode cX0_copy 70 = .ok (.invokestatic 38, 3) := by decide +kernel
theorem dX0_copy_73 : decode cX0_copy 73 = .ok (.aload_n 1, 1) := by decide +kernel
theorem dX0_copy_74 : decode cX0_copy 74 = .ok (.getfield 24, 3) := by decide +kernel
theorem dX0_copy_77 : decode cX0_copy 77 = .ok (.iload_n 2, 1) := by decide +kernel
theorem dX0_copy_78 : decode cX0_copy 78 = .ok (.invokestatic 38, 3) := by decide +kernel
theorem dX0_copy_81 : decode cX0_copy 81 = .ok (.invokevirtual 46, 3) := by decide +kernel
theorem dX0_copy_84 : decode cX0_copy 84 = .ok (.iinc 2 1, 3) := by decide +kernel
theorem dX0_copy_87 : decode cX0_copy 87 = .ok (.goto (-39), 3) := by decide +kernel
theorem dX0_copy_90 : decode cX0_copy 90 = .ok (.return_, 1) := by decide +kernel
theorem dX1_init_0 : decode cX1_init 0 = .ok (.aload_n 0, 1) := by decide +kernel
theorem dX1_init_1 : decode cX1_init 1 = .ok (.invokespecial 3, 3) := by decide +kernel
theorem dX1_init_4 : decode cX1_init 4 = .ok (.aload_n 0, 1) := by decide +kernel
theorem dX1_init_5 : decode cX1_init 5 = .ok (.sipush 257, 3) := by decide +kernel
theorem dX1_init_8 : decode cX1_init 8 = .ok (.newarray .int, 2) := by decide +kernel
theorem dX1_init_10 : decode cX1_init 10 = .ok (.putfield 9, 3) := by decide +kernel
theorem dX1_init_13 : decode cX1_init 13 = .ok (.aload_n 0, 1) := by decide +kernel
theorem dX1_init_14 : decode cX1_init 14 = .ok (.sipush 1536, 3) := by decide +kernel
theorem dX1_init_17 : decode cX1_init 17 = .ok (.newarray .int, 2) := by decide +kernel
theorem dX1_init_19 : decode cX1_init 19 = .ok (.putfield 15, 3) := by decide +kernel
theorem dX1_init_22 : decode cX1_init 22 = .ok (.aload_n 0, 1) := by decide +kernel
theorem dX1_init_23 : decode cX1_init 23 = .ok (.sipush 256, 3) := by decide +kernel
theorem dX1_init_26 : decode cX1_init 26 = .ok (.newarray .int, 2) := by decide +kernel
theorem dX1_init_28 : decode cX1_init 28 = .ok (.putfield 18, 3) := by decide +kernel
theorem dX1_init_31 : decode cX1_init 31 = .ok (.aload_n 0, 1) := by decide +kernel
theorem dX1_init_32 : decode cX1_init 32 = .ok (.sipush 256, 3) := by decide +kernel
theorem dX1_init_35 : decode cX1_init 35 = .ok (.newarray .int, 2) := by decide +kernel
theorem dX1_init_37 : decode cX1_init 37 = .ok (.putfield 21, 3) := by decide +kernel
theorem dX1_init_40 : decode cX1_init 40 = .ok (.return_, 1) := by decide +kernel
theorem dX1_make_0 : decode cX1_make 0 = .ok (.aload_n 0, 1) := by decide +kernel
theorem dX1_make_1 : decode cX1_make 1 = .ok (.getfield 9, 3) := by decide +kernel
theorem dX1_make_4 : decode cX1_make 4 = .ok (.iconst 0, 1) := by decide +kernel
theorem dX1_make_5 : decode cX1_make 5 = .ok (.invokestatic 24, 3) := by decide +kernel
theorem dX1_make_8 : decode cX1_make 8 = .ok (.iconst 0, 1) := by decide +kernel
theorem dX1_make_9 : decode cX1_make 9 = .ok (.istore_n 2, 1) := by decide +kernel
theorem dX1_make_10 : decode cX1_make 10 = .ok (.iload_n 2, 1) := by decide +kernel
theorem dX1_make_11 : decode cX1_make 11 = .ok (.aload_n 1, 1) := by decide +kernel
theorem dX1_make_12 : decode cX1_make 12 = .ok (.getfield 30, 3) := by decide +kernel
theorem dX1_make_15 : decode cX1_make 15 = .ok (.if_icmp .ge 59, 3) := by decide +kernel
theorem dX1_make_18 : decode cX1_make 18 = .ok (.iconst 0, 1) := by decide +kernel
theorem dX1_make_19 : decode cX1_make 19 = .ok (.istore_n 3, 1) := by decide +kernel
theorem dX1_make_20 : decode cX1_make 20 = .ok (.iload_n 3, 1) := by decide +kernel
theorem dX1_make_21 : decode cX1_make 21 = .ok (.aload_n 1, 1) := by decide +kernel
theorem dX1_make_22 : decode cX1_make 22 = .ok (.invokevirtual 36, 3) := by decide +kernel
theorem dX1_make_25 : decode cX1_make 25 = .ok (.if_icmp .ge 43, 3) := by decide +kernel
theorem dX1_make_28 : decode cX1_make 28 = .ok (.aload_n 1, 1) := by decide +kernel
theorem dX1_make_29 : decode cX1_make 29 = .ok (.iload_n 2, 1) := by decide +kernel
theorem dX1_make_30 : decode cX1_make 30 = .ok (.iload_n 3, 1) := by decide +kernel
theorem dX1_make_31 : decode cX1_make 31 = .ok (.invokevirtual 40, 3) := by decide +kernel
theorem dX1_make_34 : decode cX1_make 34 = .ok (.istore 4, 2) := by decide +kernel
theorem dX1_make_36 : decode cX1_make 36 = .ok (.iload 4, 2) := by decide +kernel
theorem dX1_make_38 : decode cX1_make 38 = .ok (.iload_n 2, 1) := by decide +kernel
theorem dX1_make_39 : decode cX1_make 39 = .ok (.if_icmp .eq 23, 3) := by decide +kernel
theorem dX1_make_42 : decode cX1_make 42 = .ok (.aload_n 0, 1) := by decide +kernel
theorem dX1_make_43 : decode cX1_make 43 = .ok (.getfield 9, 3) := by decide +kernel
theorem dX1_make_46 : decode cX1_make 46 = .ok (.iload 4, 2) := by decide +kernel
theorem dX1_make_48 : decode cX1_make 48 = .ok (.aload_n 0, 1) := by decide +kernel
theorem dX1_make_49 : decode cX1_make 49 = .ok (.getfield 9, 3) := by decide +kernel
theorem dX1_make_52 : decode cX1_make 52 = .ok (.iload 4, 2) := by decide +kernel
theorem dX1_make_54 : decode cX1_make 54 = .ok (.invokestatic 44, 3) := by decide +kernel
theorem dX1_make_57 : decode cX1_make 57 = .ok (.iconst 1, 1) := by decide +kernel
theorem dX1_make_58 : decode cX1_make 58 = .ok (.iadd, 1) := by decide +kernel
theorem dX1_make_59 : decode cX1_make 59 = .ok (.invokestatic 48, 3) := by decide +kernel
theorem dX1_make_62 : decode cX1_make 62 = .ok (.iinc 3 1, 3) := by decide +kernel
theorem dX1_make_65 : decode cX1_make 65 = .ok (.goto (-45), 3) := by decide +kernel
theorem dX1_make_68 : decode cX1_make 68 = .ok (.iinc 2 1, 3) := by decide +kernel
theorem dX1_make_71 : decode cX1_make 71 = .ok (.goto (-61), 3) := by decide +kernel
theorem dX1_make_74 : decode cX1_make 74 = .ok (.iconst 1, 1) := by decide +kernel
theorem dX1_make_75 : decode cX1_make 75 = .ok (.istore_n 2, 1) := by decide +kernel
theorem dX1_make_76 : decode cX1_make 76 = .ok (.iload_n 2, 1) := by decide +kernel
theorem dX1_make_77 : decode cX1_make 77 = .ok (.sipush 256, 3) := by decide +kernel
theorem dX1_make_80 : decode cX1_make 80 = .ok (.if_icmp .gt 36, 3) := by decide +kernel
theorem dX1_make_83 : decode cX1_make 83 = .ok (.aload_n 0, 1) := by decide +kernel
theorem dX1_make_84 : decode cX1_make 84 = .ok (.getfield 9, 3) := by decide +kernel
theorem dX1_make_87 : decode cX1_make 87 = .ok (.iload_n 2, 1) := by decide +kernel
theorem dX1_make_88 : decode cX1_make 88 = .ok (.aload_n 0, 1) := by decide +kernel
theorem dX1_make_89 : decode cX1_make 89 = .ok (.getfield 9, 3) := by decide +kernel
theorem dX1_make_92 : decode cX1_make 92 = .ok (.iload_n 2, 1) := by decide +kernel
theorem dX1_make_93 : decode cX1_make 93 = .ok (.invokestatic 44, 3) := by decide +kernel
theorem dX1_make_96 : decode cX1_make 96 = .ok (.aload_n 0, 1) := by decide +kernel
theorem dX1_make_97 : decode cX1_make 97 = .ok (.getfield 9, 3) := by decide +kernel
theorem dX1_make_100 : decode cX1_make 100 = .ok (.iload_n 2, 1) := by decide +kernel
theorem dX1_make_101 : decode cX1_make 101 = .ok (.iconst 1, 1) := by decide +kernel
theorem dX1_make_102 : decode cX1_make 102 = .ok (.isub, 1) := by decide +kernel
theorem dX1_make_103 : decode cX1_make 103 = .ok (.invokestatic 44, 3) := by decide +kernel
theorem dX1_make_106 : decode cX1_make 106 = .ok (.iadd, 1) := by decide +kernel
theorem dX1_make_107 : decode cX1_make 107 = .ok (.invokestatic 48, 3) := by decide +kernel
theorem dX1_make_110 : decode cX1_make 110 = .ok (.iinc 2 1, 3) := by decide +kernel
theorem dX1_make_113 : decode cX1_make 113 = .ok (.goto (-37), 3) := by decide +kernel
theorem dX1_make_116 : decode cX1_make 116 = .ok (.aload_n 0, 1) := by decide +kernel
theorem dX1_make_117 : decode cX1_make 117 = .ok (.aload_n 1, 1) := by decide +kernel
theorem dX1_make_118 : decode cX1_make 118 = .ok (.invokevirtual 52, 3) := by decide +kernel
theorem dX1_make_121 : decode cX1_make 121 = .ok (.return_, 1) := by decide +kernel
theorem dX1_fillFromTheEnds_0 : decode cX1_fillFromTheEnds 0 = .ok (.iconst 0, 1) := by decide +kernel
theorem dX1_fillFromTheEnds_1 : decode cX1_fillFromTheEnds 1 = .ok (.istore_n 2, 1) := by decide +kernel
theorem dX1_fillFromTheEnds_2 : decode cX1_fillFromTheEnds 2 = .ok (.iload_n 2, 1) := by decide +kernel
theorem dX1_fillFromTheEnds_3 : decode cX1_fillFromTheEnds 3 = .ok (.aload_n 1, 1) := by decide +kernel
theorem dX1_fillFromTheEnds_4 : decode cX1_fillFromTheEnds 4 = .ok (.getfield 30, 3) := by decide +kernel
theorem dX1_fillFromTheEnds_7 : decode cX1_fillFromTheEnds 7 = .ok (.if_icmp .ge 78, 3) := by decide +kernel
theorem dX1_fillFromTheEnds_10 : decode cX1_fillFromTheEnds 10 = .ok (.iconst 0, 1) := by decide +kernel
theorem dX1_fillFromTheEnds_11 : decode cX1_fillFromTheEnds 11 = .ok (.istore_n 3, 1) := by decide +kernel
theorem dX1_fillFromTheEnds_12 : decode cX1_fillFromTheEnds 12 = .ok (.iload_n 3, 1) := by decide +kernel
theorem dX1_fillFromTheEnds_13 : decode cX1_fillFromTheEnds 13 = .ok (.aload_n 1, 1) := by decide +kernel
theorem dX1_fillFromTheEnds_14 : decode cX1_fillFromTheEnds 14 = .ok (.invokevirtual 36, 3) := by decide +kernel
theorem dX1_fillFromTheEnds_17 : decode cX1_fillFromTheEnds 17 = .ok (.if_icmp .ge 62, 3) := by decide +kernel
theorem dX1_fillFromTheEnds_20 : decode cX1_fillFromTheEnds 20 = .ok (.aload_n 1, 1) := by decide +kernel
theorem dX1_fillFromTheEnds_21 : decode cX1_fillFromTheEnds 21 = .ok (.iload_n 2, 1) := by decide +kernel
theorem dX1_fillFromTheEnds_22 : decode cX1_fillFromTheEnds 22 = .ok (.iload_n 3, 1) := by decide +kernel
theorem dX1_fillFromTheEnds_23 : decode cX1_fillFromTheEnds 23 = .ok (.invokevirtual 40, 3) := by decide +kernel
theorem dX1_fillFromTheEnds_26 : decode cX1_fillFromTheEnds 26 = .ok (.istore 4, 2) := by decide +kernel
theorem dX1_fillFromTheEnds_28 : decode cX1_fillFromTheEnds 28 = .ok (.iload 4, 2) := by decide +kernel
theorem dX1_fillFromTheEnds_30 : decode cX1_fillFromTheEnds 30 = .ok (.iload_n 2, 1) := by decide +kernel
theorem dX1_fillFromTheEnds_31 : decode cX1_fillFromTheEnds 31 = .ok (.if_icmp .eq 42, 3) := by decide +kernel
theorem dX1_fillFromTheEnds_34 : decode cX1_fillFromTheEnds 34 = .ok (.aload_n 0, 1) := by decide +kernel
theorem dX1_fillFromTheEnds_35 : decode cX1_fillFromTheEnds 35 = .ok (.getfield 9, 3) := by decide +kernel
theorem dX1_fillFromTheEnds_38 : decode cX1_fillFromTheEnds 38 = .ok (.iload 4, 2) := by decide +kernel
theorem dX1_fillFromTheEnds_40 : decode cX1_fillFromTheEnds 40 = .ok (.invokestatic 44, 3) := by decide +kernel
theorem dX1_fillFromTheEnds_43 : decode cX1_fillFromTheEnds 43 = .ok (.iconst 1, 1) := by decide +kernel
theorem dX1_fillFromTheEnds_44 : decode cX1_fillFromTheEnds 44 = .ok (.isub, 1) := by decide +kernel
theorem dX1_fillFromTheEnds_45 : decode cX1_fillFromTheEnds 45 = .ok (.istore 5, 2) := by decide +kernel
theorem dX1_fillFromTheEnds_47 : decode cX1_fillFromTheEnds 47 = .ok (.aload_n 0, 1) := by decide +kernel
theorem dX1_fillFromTheEnds_48 : decode cX1_fillFromTheEnds 48 = .ok (.getfield 9, 3) := by decide +kernel
theorem dX1_fillFromTheEnds_51 : decode cX1_fillFromTheEnds 51 = .ok (.iload 4, 2) := by decide +kernel
theorem dX1_fillFromTheEnds_53 : decode cX1_fillFromTheEnds 53 = .ok (.iload 5, 2) := by decide +kernel
theorem dX1_fillFromTheEnds_55 : decode cX1_fillFromTheEnds 55 = .ok (.invokestatic 48, 3) := by decide +kernel
theorem dX1_fillFromTheEnds_58 : decode cX1_fillFromTheEnds 58 = .ok (.aload_n 0, 1) := by decide +kernel
theorem dX1_fillFromTheEnds_59 : decode cX1_fillFromTheEnds 59 = .ok (.getfield 15, 3) := by decide +kernel
theorem dX1_fillFromTheEnds_62 : decode cX1_fillFromTheEnds 62 = .ok (.iload 5, 2) := by decide +kernel
theorem dX1_fillFromTheEnds_64 : decode cX1_fillFromTheEnds 64 = .ok (.iload_n 2, 1) := by decide +kernel
theorem dX1_fillFromTheEnds_65 : decode cX1_fillFromTheEnds 65 = .ok (.bipush 6, 2) := by decide +kernel
theorem dX1_fillFromTheEnds_67 : decode cX1_fillFromTheEnds 67 = .ok (.imul, 1) := by decide +kernel
theorem dX1_fillFromTheEnds_68 : decode cX1_fillFromTheEnds 68 = .ok (.iload_n 3, 1) := by decide +kernel
theorem dX1_fillFromTheEnds_69 : decode cX1_fillFromTheEnds 69 = .ok (.iadd, 1) := by decide +kernel
theorem dX1_fillFromTheEnds_70 : decode cX1_fillFromTheEnds 70 = .ok (.invokestatic 48, 3) := by decide +kernel
theorem dX1_fillFromTheEnds_73 : decode cX1_fillFromTheEnds 73 = .ok (.iinc 3 1, 3) := by decide +kernel
theorem dX1_fillFromTheEnds_76 : decode cX1_fillFromTheEnds 76 = .ok (.goto (-64), 3) := by decide +kernel
theorem dX1_fillFromTheEnds_79 : decode cX1_fillFromTheEnds 79 = .ok (.iinc 2 1, 3) := by decide +kernel
theorem dX1_fillFromTheEnds_82 : decode cX1_fillFromTheEnds 82 = .ok (.goto (-80), 3) := by decide +kernel
theorem dX1_fillFromTheEnds_85 : decode cX1_fillFromTheEnds 85 = .ok (.return_, 1) := by decide +kernel
theorem dX1_spread_0 : decode cX1_spread 0 = .ok (.aload_n 0, 1) := by decide +kernel
theorem dX1_spread_1 : decode cX1_spread 1 = .ok (.getfield 18, 3) := by decide +kernel
theorem dX1_spread_4 : decode cX1_spread 4 = .ok (.iconst (-1), 1) := by decide +kernel
theorem dX1_spread_5 : decode cX1_spread 5 = .ok (.invokestatic 24, 3) := by decide +kernel
theorem dX1_spread_8 : decode cX1_spread 8 = .ok (.aload_n 0, 1) := by decide +kernel
theorem dX1_spread_9 : decode cX1_spread 9 = .ok (.getfield 18, 3) := by decide +kernel
theorem dX1_spread_12 : decode cX1_spread 12 = .ok (.iload_n 1, 1) := by decide +kernel
theorem dX1_spread_13 : decode cX1_spread 13 = .ok (.iconst 0, 1) := by decide +kernel
theorem dX1_spread_14 : decode cX1_spread 14 = .ok (.invokestatic 48, 3) := by decide +kernel
theorem dX1_spread_17 : decode cX1_spread 17 = .ok (.aload_n 0, 1) := by decide +kernel
theorem dX1_spread_18 : decode cX1_spread 18 = .ok (.getfield 21, 3) := by decide +kernel
theorem dX1_spread_21 : decode cX1_spread 21 = .ok (.iconst 0, 1) := by decide +kernel
theorem dX1_spread_22 : decode cX1_spread 22 = .ok (.iload_n 1, 1) := by decide +kernel
theorem dX1_spread_23 : decode cX1_spread 23 = .ok (.invokestatic 48, 3) := by decide +kernel
theorem dX1_spread_26 : decode cX1_spread 26 = .ok (.aload_n 0, 1) := by decide +kernel
theorem dX1_spread_27 : decode cX1_spread 27 = .ok (.iconst 1, 1) := by decide +kernel
theorem dX1_spread_28 : decode cX1_spread 28 = .ok (.putfield 56, 3) := by decide +kernel
theorem dX1_spread_31 : decode cX1_spread 31 = .ok (.iconst 0, 1) := by decide +kernel
theorem dX1_spread_32 : decode cX1_spread 32 = .ok (.istore_n 3, 1) := by decide +kernel
theorem dX1_spread_33 : decode cX1_spread 33 = .ok (.iload_n 3, 1) := by decide +kernel
theorem dX1_spread_34 : decode cX1_spread 34 = .ok (.sipush 256, 3) := by decide +kernel
theorem dX1_spread_37 : decode cX1_spread 37 = .ok (.if_icmp .ge 30, 3) := by decide +kernel
theorem dX1_spread_40 : decode cX1_spread 40 = .ok (.iload_n 3, 1) := by decide +kernel
theorem dX1_spread_41 : decode cX1_spread 41 = .ok (.aload_n 0, 1) := by decide +kernel
theorem dX1_spread_42 : decode cX1_spread 42 = .ok (.getfield 56, 3) := by decide +kernel
theorem dX1_spread_45 : decode cX1_spread 45 = .ok (.if_icmp .ge 22, 3) := by decide +kernel
theorem dX1_spread_48 : decode cX1_spread 48 = .ok (.aload_n 0, 1) := by decide +kernel
theorem dX1_spread_49 : decode cX1_spread 49 = .ok (.aload_n 0, 1) := by decide +kernel
theorem dX1_spread_50 : decode cX1_spread 50 = .ok (.getfield 21, 3) := by decide +kernel
theorem dX1_spread_53 : decode cX1_spread 53 = .ok (.iload_n 3, 1) := by decide +kernel
theorem dX1_spread_54 : decode cX1_spread 54 = .ok (.invokestatic 44, 3) := by decide +kernel
theorem dX1_spread_57 : decode cX1_spread 57 = .ok (.iload_n 2, 1) := by decide +kernel
theorem dX1_spread_58 : decode cX1_spread 58 = .ok (.invokevirtual 59, 3) := by decide +kernel
theorem dX1_spread_61 : decode cX1_spread 61 = .ok (.iinc 3 1, 3) := by decide +kernel
theorem dX1_spread_64 : decode cX1_spread 64 = .ok (.goto (-31), 3) := by decide +kernel
theorem dX1_spread_67 : decode cX1_spread 67 = .ok (.aload_n 0, 1) := by decide +kernel
theorem dX1_spread_68 : decode cX1_spread 68 = .ok (.getfield 56, 3) := by decide +kernel
theorem dX1_spread_71 : decode cX1_spread 71 = .ok (.ireturn, 1) := by decide +kernel
theorem dX1_reachFrom_0 : decode cX1_reachFrom 0 = .ok (.aload_n 0, 1) := by decide +kernel
theorem dX1_reachFrom_1 : decode cX1_reachFrom 1 = .ok (.getfield 9, 3) := by decide +kernel
theorem dX1_reachFrom_4 : decode cX1_reachFrom 4 = .ok (.iload_n 1, 1) := by decide +kernel
theorem dX1_reachFrom_5 : decode cX1_reachFrom 5 = .ok (.iconst 1, 1) := by decide +kernel
theorem dX1_reachFrom_6 : decode cX1_reachFrom 6 = .ok (.iadd, 1) := by decide +kernel
theorem dX1_reachFrom_7 : decode cX1_reachFrom 7 = .ok (.invokestatic 44, 3) := by decide +kernel
theorem dX1_reachFrom_10 : decode cX1_reachFrom 10 = .ok (.istore_n 3, 1) := by decide +kernel
theorem dX1_reachFrom_11 : decode cX1_reachFrom 11 = .ok (.aload_n 0, 1) := by decide +kernel
theorem dX1_reachFrom_12 : decode cX1_reachFrom 12 = .ok (.getfield 9, 3) := by decide +kernel
theorem dX1_reachFrom_15 : decode cX1_reachFrom 15 = .ok (.iload_n 1, 1) := by decide +kernel
theorem dX1_reachFrom_16 : decode cX1_reachFrom 16 = .ok (.invokestatic 44, 3) := by decide +kernel
theorem dX1_reachFrom_19 : decode cX1_reachFrom 19 = .ok (.istore 4, 2) := by decide +kernel
theorem dX1_reachFrom_21 : decode cX1_reachFrom 21 = .ok (.iload 4, 2) := by decide +kernel
theorem dX1_reachFrom_23 : decode cX1_reachFrom 23 = .ok (.iload_n 3, 1) := by decide +kernel
theorem dX1_reachFrom_24 : decode cX1_reachFrom 24 = .ok (.if_icmp .ge 99, 3) := by decide +kernel
theorem dX1_reachFrom_27 : decode cX1_reachFrom 27 = .ok (.aload_n 0, 1) := by decide +kernel
theorem dX1_reachFrom_28 : decode cX1_reachFrom 28 = .ok (.getfield 15, 3) := by decide +kernel
theorem dX1_reachFrom_31 : decode cX1_reachFrom 31 = .ok (.iload 4, 2) := by decide +kernel
theorem dX1_reachFrom_33 : decode cX1_reachFrom 33 = .ok (.invokestatic 44, 3) := by decide +kernel
theorem dX1_reachFrom_36 : decode cX1_reachFrom 36 = .ok (.istore 5, 2) := by decide +kernel
theorem dX1_reachFrom_38 : decode cX1_reachFrom 38 = .ok (.iload 5, 2) := by decide +kernel
theorem dX1_reachFrom_40 : decode cX1_reachFrom 40 = .ok (.bipush 6, 2) := by decide +kernel
theorem dX1_reachFrom_42 : decode cX1_reachFrom 42 = .ok (.idiv, 1) := by decide +kernel
theorem dX1_reachFrom_43 : decode cX1_reachFrom 43 = .ok (.istore 6, 2) := by decide +kernel
theorem dX1_reachFrom_45 : decode cX1_reachFrom 45 = .ok (.iload 5, 2) := by decide +kernel
theorem dX1_reachFrom_47 : decode cX1_reachFrom 47 = .ok (.bipush 6, 2) := by decide +kernel
theorem dX1_reachFrom_49 : decode cX1_reachFrom 49 = .ok (.irem, 1) := by decide +kernel
theorem dX1_reachFrom_50 : decode cX1_reachFrom 50 = .ok (.istore 7, 2) := by decide +kernel
theorem dX1_reachFrom_52 : decode cX1_reachFrom 52 = .ok (.iload_n 2, 1) := by decide +kernel
theorem dX1_reachFrom_53 : decode cX1_reachFrom 53 = .ok (.iload 7, 2) := by decide +kernel
theorem dX1_reachFrom_55 : decode cX1_reachFrom 55 = .ok (.ishr, 1) := by decide +kernel
theorem dX1_reachFrom_56 : decode cX1_reachFrom 56 = .ok (.iconst 1, 1) := by decide +kernel
theorem dX1_reachFrom_57 : decode cX1_reachFrom 57 = .ok (.iand, 1) := by decide +kernel
theorem dX1_reachFrom_58 : decode cX1_reachFrom 58 = .ok (.iconst 1, 1) := by decide +kernel
theorem dX1_reachFrom_59 : decode cX1_reachFrom 59 = .ok (.if_icmp .ne 58, 3) := by decide +kernel
theorem dX1_reachFrom_62 : decode cX1_reachFrom 62 = .ok (.aload_n 0, 1) := by decide +kernel
theorem dX1_reachFrom_63 : decode cX1_reachFrom 63 = .ok (.getfield 18, 3) := by decide +kernel
theorem dX1_reachFrom_66 : decode cX1_reachFrom 66 = .ok (.iload 6, 2) := by decide +kernel
theorem dX1_reachFrom_68 : decode cX1_reachFrom 68 = .ok (.invokestatic 44, 3) := by decide +kernel
theorem dX1_reachFrom_71 : decode cX1_reachFrom 71 = .ok (.iconst (-1), 1) := by decide +kernel
theorem dX1_reachFrom_72 : decode cX1_reachFrom 72 = .ok (.if_icmp .ne 45, 3) := by decide +kernel
theorem dX1_reachFrom_75 : decode cX1_reachFrom 75 = .ok (.aload_n 0, 1) := by decide +kernel
theorem dX1_reachFrom_76 : decode cX1_reachFrom 76 = .ok (.getfield 18, 3) := by decide +kernel
theorem dX1_reachFrom_79 : decode cX1_reachFrom 79 = .ok (.iload 6, 2) := by decide +kernel
theorem dX1_reachFrom_81 : decode cX1_reachFrom 81 = .ok (.aload_n 0, 1) := by decide +kernel
theorem dX1_reachFrom_82 : decode cX1_reachFrom 82 = .ok (.getfield 18, 3) := by decide +kernel
theorem dX1_reachFrom_85 : decode cX1_reachFrom 85 = .ok (.iload_n 1, 1) := by decide +kernel
theorem dX1_reachFrom_86 : decode cX1_reachFrom 86 = .ok (.invokestatic 44, 3) := by decide +kernel
theorem dX1_reachFrom_89 : decode cX1_reachFrom 89 = .ok (.iconst 1, 1) := by decide +kernel
theorem dX1_reachFrom_90 : decode cX1_reachFrom 90 = .ok (.iadd, 1) := by decide +kernel
theorem dX1_reachFrom_91 : decode cX1_reachFrom 91 = .ok (.invokestatic 48, 3) := by decide +kernel
theorem dX1_reachFrom_94 : decode cX1_reachFrom 94 = .ok (.aload_n 0, 1) := by decide +kernel
theorem dX1_reachFrom_95 : decode cX1_reachFrom 95 = .ok (.getfield 21, 3) := by decide +kernel
theorem dX1_reachFrom_98 : decode cX1_reachFrom 98 = .ok (.aload_n 0, 1) := by decide +kernel
theorem dX1_reachFrom_99 : decode cX1_reachFrom 99 = .ok (.getfield 56, 3) := by decide +kernel
theorem dX1_reachFrom_102 : decode cX1_reachFrom 102 = .ok (.iload 6, 2) := by decide +kernel
theorem dX1_reachFrom_104 : decode cX1_reachFrom 104 = .ok (.invokestatic 48, 3) := by decide +kernel
theorem dX1_reachFrom_107 : decode cX1_reachFrom 107 = .ok (.aload_n 0, 1) := by decide +kernel
theorem dX1_reachFrom_108 : decode cX1_reachFrom 108 = .ok (.dup, 1) := by decide +kernel
theorem dX1_reachFrom_109 : decode cX1_reachFrom 109 = .ok (.getfield 56, 3) := by decide +kernel
theorem dX1_reachFrom_112 : decode cX1_reachFrom 112 = .ok (.iconst 1, 1) := by decide +kernel
theorem dX1_reachFrom_113 : decode cX1_reachFrom 113 = .ok (.iadd, 1) := by decide +kernel
theorem dX1_reachFrom_114 : decode cX1_reachFrom 114 = .ok (.putfield 56, 3) := by decide +kernel
theorem dX1_reachFrom_117 : decode cX1_reachFrom 117 = .ok (.iinc 4 1, 3) := by decide +kernel
theorem dX1_reachFrom_120 : decode cX1_reachFrom 120 = .ok (.goto (-99), 3) := by decide +kernel
theorem dX1_reachFrom_123 : decode cX1_reachFrom 123 = .ok (.return_, 1) := by decide +kernel
theorem dX1_distanceOf_0 : decode cX1_distanceOf 0 = .ok (.aload_n 0, 1) := by decide +kernel
theorem dX1_distanceOf_1 : decode cX1_distanceOf 1 = .ok (.getfield 18, 3) := by decide +kernel
theorem dX1_distanceOf_4 : decode cX1_distanceOf 4 = .ok (.iload_n 1, 1) := by decide +kernel
theorem dX1_distanceOf_5 : decode cX1_distanceOf 5 = .ok (.invokestatic 44, 3) := by decide +kernel
theorem dX1_distanceOf_8 : decode cX1_distanceOf 8 = .ok (.ireturn, 1) := by decide +kernel
theorem dX1_greatestDistance_0 : decode cX1_greatestDistance 0 = .ok (.aload_n 0, 1) := by decide +kernel
theorem dX1_greatestDistance_1 : decode cX1_greatestDistance 1 = .ok (.getfield 18, 3) := by decide +kernel
theorem dX1_greatestDistance_4 : decode cX1_greatestDistance 4 = .ok (.aload_n 0, 1) := by decide +kernel
theorem dX1_greatestDistance_5 : decode cX1_greatestDistance 5 = .ok (.getfield 21, 3) := by decide +kernel
theorem dX1_greatestDistance_8 : decode cX1_greatestDistance 8 = .ok (.aload_n 0, 1) := by decide +kernel
theorem dX1_greatestDistance_9 : decode cX1_greatestDistance 9 = .ok (.getfield 56, 3) := by decide +kernel
theorem dX1_greatestDistance_12 : decode cX1_greatestDistance 12 = .ok (.iconst 1, 1) := by decide +kernel
theorem dX1_greatestDistance_13 : decode cX1_greatestDistance 13 = .ok (.isub, 1) := by decide +kernel
theorem dX1_greatestDistance_14 : decode cX1_greatestDistance 14 = .ok (.invokestatic 44, 3) := by decide +kernel
theorem dX1_greatestDistance_17 : decode cX1_greatestDistance 17 = .ok (.invokestatic 44, 3) := by decide +kernel
theorem dX1_greatestDistance_20 : decode cX1_greatestDistance 20 = .ok (.ireturn, 1) := by decide +kernel
theorem dX2_init_0 : decode cX2_init 0 = .ok (.aload_n 0, 1) := by decide +kernel
theorem dX2_init_1 : decode cX2_init 1 = .ok (.invokespecial 3, 3) := by decide +kernel
theorem dX2_init_4 : decode cX2_init 4 = .ok (.aload_n 0, 1) := by decide +kernel
theorem dX2_init_5 : decode cX2_init 5 = .ok (.new 9, 3) := by decide +kernel
theorem dX2_init_8 : decode cX2_init 8 = .ok (.dup, 1) := by decide +kernel
theorem dX2_init_9 : decode cX2_init 9 = .ok (.invokespecial 11, 3) := by decide +kernel
theorem dX2_init_12 : decode cX2_init 12 = .ok (.putfield 12, 3) := by decide +kernel
theorem dX2_init_15 : decode cX2_init 15 = .ok (.aload_n 0, 1) := by decide +kernel
theorem dX2_init_16 : decode cX2_init 16 = .ok (.sipush 256, 3) := by decide +kernel
theorem dX2_init_19 : decode cX2_init 19 = .ok (.newarray .int, 2) := by decide +kernel
theorem dX2_init_21 : decode cX2_init 21 = .ok (.putfield 18, 3) := by decide +kernel
theorem dX2_init_24 : decode cX2_init 24 = .ok (.aload_n 0, 1) := by decide +kernel
theorem dX2_init_25 : decode cX2_init 25 = .ok (.sipush 256, 3) := by decide +kernel
theorem dX2_init_28 : decode cX2_init 28 = .ok (.newarray .int, 2) := by decide +kernel
theorem dX2_init_30 : decode cX2_init 30 = .ok (.putfield 22, 3) := by decide +kernel
theorem dX2_init_33 : decode cX2_init 33 = .ok (.aload_n 0, 1) := by decide +kernel
theorem dX2_init_34 : decode cX2_init 34 = .ok (.sipush 1536, 3) := by decide +kernel
theorem dX2_init_37 : decode cX2_init 37 = .ok (.newarray .int, 2) := by decide +kernel
theorem dX2_init_39 : decode cX2_init 39 = .ok (.putfield 25, 3) := by decide +kernel
theorem dX2_init_42 : decode cX2_init 42 = .ok (.return_, 1) := by decide +kernel
theorem dX2_make_0 : decode cX2_make 0 = .ok (.aload_n 0, 1) := by decide +kernel
theorem dX2_make_1 : decode cX2_make 1 = .ok (.getfield 12, 3) := by decide +kernel
theorem dX2_make_4 : decode cX2_make 4 = .ok (.aload_n 1, 1) := by decide +kernel
theorem dX2_make_5 : decode cX2_make 5 = .ok (.invokevirtual 28, 3) := by decide +kernel
theorem dX2_make_8 : decode cX2_make 8 = .ok (.aload_n 0, 1) := by decide +kernel
theorem dX2_make_9 : decode cX2_make 9 = .ok (.iconst 1, 1) := by decide +kernel
theorem dX2_make_10 : decode cX2_make 10 = .ok (.iconst 2, 1) := by decide +kernel
theorem dX2_make_11 : decode cX2_make 11 = .ok (.aload_n 0, 1) := by decide +kernel
theorem dX2_make_12 : decode cX2_make 12 = .ok (.getfield 12, 3) := by decide +kernel
theorem dX2_make_15 : decode cX2_make 15 = .ok (.getfield 32, 3) := by decide +kernel
theorem dX2_make_18 : decode cX2_make 18 = .ok (.imul, 1) := by decide +kernel
theorem dX2_make_19 : decode cX2_make 19 = .ok (.ishl, 1) := by decide +kernel
theorem dX2_make_20 : decode cX2_make 20 = .ok (.putfield 36, 3) := by decide +kernel
theorem dX2_make_23 : decode cX2_make 23 = .ok (.iconst 0, 1) := by decide +kernel
theorem dX2_make_24 : decode cX2_make 24 = .ok (.istore_n 2, 1) := by decide +kernel
theorem dX2_make_25 : decode cX2_make 25 = .ok (.iload_n 2, 1) := by decide +kernel
theorem dX2_make_26 : decode cX2_make 26 = .ok (.aload_n 0, 1) := by decide +kernel
theorem dX2_make_27 : decode cX2_make 27 = .ok (.getfield 36, 3) := by decide +kernel
theorem dX2_make_30 : decode cX2_make 30 = .ok (.if_icmp .ge 14, 3) := by decide +kernel
theorem dX2_make_33 : decode cX2_make 33 = .ok (.aload_n 0, 1) := by decide +kernel
theorem dX2_make_34 : decode cX2_make 34 = .ok (.iload_n 2, 1) := by decide +kernel
theorem dX2_make_35 : decode cX2_make 35 = .ok (.invokevirtual 39, 3) := by decide +kernel
theorem dX2_make_38 : decode cX2_make 38 = .ok (.iinc 2 1, 3) := by decide +kernel
theorem dX2_make_41 : decode cX2_make 41 = .ok (.goto (-16), 3) := by decide +kernel
theorem dX2_make_44 : decode cX2_make 44 = .ok (.return_, 1) := by decide +kernel
theorem dX2_tellCode_0 : decode cX2_tellCode 0 = .ok (.iconst 0, 1) := by decide +kernel
theorem dX2_tellCode_1 : decode cX2_tellCode 1 = .ok (.istore_n 2, 1) := by decide +kernel
theorem dX2_tellCode_2 : decode cX2_tellCode 2 = .ok (.iconst 0, 1) := by decide +kernel
theorem dX2_tellCode_3 : decode cX2_tellCode 3 = .ok (.istore_n 3, 1) := by decide +kernel
theorem dX2_tellCode_4 : decode cX2_tellCode 4 = .ok (.iconst 1, 1) := by decide +kernel
theorem dX2_tellCode_5 : decode cX2_tellCode 5 = .ok (.istore 4, 2) := by decide +kernel
theorem dX2_tellCode_7 : decode cX2_tellCode 7 = .ok (.iconst 0, 1) := by decide +kernel
theorem dX2_tellCode_8 : decode cX2_tellCode 8 = .ok (.istore 5, 2) := by decide +kernel
theorem dX2_tellCode_10 : decode cX2_tellCode 10 = .ok (.iload 5, 2) := by decide +kernel
theorem dX2_tellCode_12 : decode cX2_tellCode 12 = .ok (.aload_n 0, 1) := by decide +kernel
theorem dX2_tellCode_13 : decode cX2_tellCode 13 = .ok (.getfield 12, 3) := by decide +kernel
theorem dX2_tellCode_16 : decode cX2_tellCode 16 = .ok (.getfield 32, 3) := by decide +kernel
theorem dX2_tellCode_19 : decode cX2_tellCode 19 = .ok (.if_icmp .ge 52, 3) := by decide +kernel
theorem dX2_tellCode_22 : decode cX2_tellCode 22 = .ok (.aload_n 0, 1) := by decide +kernel
theorem dX2_tellCode_23 : decode cX2_tellCode 23 = .ok (.iload_n 1, 1) := by decide +kernel
theorem dX2_tellCode_24 : decode cX2_tellCode 24 = .ok (.iload 5, 2) := by decide +kernel
theorem dX2_tellCode_26 : decode cX2_tellCode 26 = .ok (.invokevirtual 43, 3) := by decide +kernel
theorem dX2_tellCode_29 : decode cX2_tellCode 29 = .ok (.istore 6, 2) := by decide +kernel
theorem dX2_tellCode_31 : decode cX2_tellCode 31 = .ok (.iload_n 2, 1) := by decide +kernel
theorem dX2_tellCode_32 : decode cX2_tellCode 32 = .ok (.bipush 10, 2) := by decide +kernel
theorem dX2_tellCode_34 : decode cX2_tellCode 34 = .ok (.imul, 1) := by decide +kernel
theorem dX2_tellCode_35 : decode cX2_tellCode 35 = .ok (.iload 6, 2) := by decide +kernel
theorem dX2_tellCode_37 : decode cX2_tellCode 37 = .ok (.iadd, 1) := by decide +kernel
theorem dX2_tellCode_38 : decode cX2_tellCode 38 = .ok (.istore_n 2, 1) := by decide +kernel
theorem dX2_tellCode_39 : decode cX2_tellCode 39 = .ok (.iload 6, 2) := by decide +kernel
theorem dX2_tellCode_41 : decode cX2_tellCode 41 = .ok (.ifCond .eq 10, 3) := by decide +kernel
theorem dX2_tellCode_44 : decode cX2_tellCode 44 = .ok (.iload_n 3, 1) := by decide +kernel
theorem dX2_tellCode_45 : decode cX2_tellCode 45 = .ok (.iconst 1, 1) := by decide +kernel
theorem dX2_tellCode_46 : decode cX2_tellCode 46 = .ok (.iload 5, 2) := by decide +kernel
theorem dX2_tellCode_48 : decode cX2_tellCode 48 = .ok (.ishl, 1) := by decide +kernel
theorem dX2_tellCode_49 : decode cX2_tellCode 49 = .ok (.ior, 1) := by decide +kernel
theorem dX2_tellCode_50 : decode cX2_tellCode 50 = .ok (.istore_n 3, 1) := by decide +kernel
theorem dX2_tellCode_51 : decode cX2_tellCode 51 = .ok (.iload 6, 2) := by decide +kernel
theorem dX2_tellCode_53 : decode cX2_tellCode 53 = .ok (.aload_n 0, 1) := by decide +kernel
theorem dX2_tellCode_54 : decode cX2_tellCode 54 = .ok (.iload 5, 2) := by decide +kernel
theorem dX2_tellCode_56 : decode cX2_tellCode 56 = .ok (.invokevirtual 47, 3) := by decide +kernel
theorem dX2_tellCode_59 : decode cX2_tellCode 59 = .ok (.if_icmp .lt 6, 3) := by decide +kernel
theorem dX2_tellCode_62 : decode cX2_tellCode 62 = .ok (.iconst 0, 1) := by decide +kernel
theorem dX2_tellCode_63 : decode cX2_tellCode 63 = .ok (.istore 4, 2) := by decide +kernel
theorem dX2_tellCode_65 : decode cX2_tellCode 65 = .ok (.iinc 5 1, 3) := by decide +kernel
theorem dX2_tellCode_68 : decode cX2_tellCode 68 = .ok (.goto (-58), 3) := by decide +kernel
theorem dX2_tellCode_71 : decode cX2_tellCode 71 = .ok (.aload_n 0, 1) := by decide +kernel
theorem dX2_tellCode_72 : decode cX2_tellCode 72 = .ok (.getfield 18, 3) := by decide +kernel
theorem dX2_tellCode_75 : decode cX2_tellCode 75 = .ok (.iload_n 1, 1) := by decide +kernel
theorem dX2_tellCode_76 : decode cX2_tellCode 76 = .ok (.iload 4, 2) := by decide +kernel
theorem dX2_tellCode_78 : decode cX2_tellCode 78 = .ok (.ifCond .eq 7, 3) := by decide +kernel
theorem dX2_tellCode_81 : decode cX2_tellCode 81 = .ok (.iload_n 2, 1) := by decide +kernel
theorem dX2_tellCode_82 : decode cX2_tellCode 82 = .ok (.goto 4, 3) := by decide +kernel
theorem dX2_tellCode_85 : decode cX2_tellCode 85 = .ok (.iconst (-1), 1) := by decide +kernel
theorem dX2_tellCode_86 : decode cX2_tellCode 86 = .ok (.invokestatic 51, 3) := by decide +kernel
theorem dX2_tellCode_89 : decode cX2_tellCode 89 = .ok (.aload_n 0, 1) := by decide +kernel
theorem dX2_tellCode_90 : decode cX2_tellCode 90 = .ok (.getfield 22, 3) := by decide +kernel
theorem dX2_tellCode_93 : decode cX2_tellCode 93 = .ok (.iload_n 1, 1) := by decide +kernel
theorem dX2_tellCode_94 : decode cX2_tellCode 94 = .ok (.iload_n 3, 1) := by decide +kernel
theorem dX2_tellCode_95 : decode cX2_tellCode 95 = .ok (.invokestatic 51, 3) := by decide +kernel
theorem dX2_tellCode_98 : decode cX2_tellCode 98 = .ok (.iconst 0, 1) := by decide +kernel
theorem dX2_tellCode_99 : decode cX2_tellCode 99 = .ok (.istore 5, 2) := by decide +kernel
theorem dX2_tellCode_101 : decode cX2_tellCode 101 = .ok (.iload 5, 2) := by decide +kernel
theorem dX2_tellCode_103 : decode cX2_tellCode 103 = .ok (.aload_n 0, 1) := by decide +kernel
theorem dX2_tellCode_104 : decode cX2_tellCode 104 = .ok (.getfield 12, 3) := by decide +kernel
theorem dX2_tellCode_107 : decode cX2_tellCode 107 = .ok (.getfield 55, 3) := by decide +kernel
theorem dX2_tellCode_110 : decode cX2_tellCode 110 = .ok (.if_icmp .ge 39, 3) := by decide +kernel
theorem dX2_tellCode_113 : decode cX2_tellCode 113 = .ok (.aload_n 0, 1) := by decide +kernel
theorem dX2_tellCode_114 : decode cX2_tellCode 114 = .ok (.getfield 25, 3) := by decide +kernel
theorem dX2_tellCode_117 : decode cX2_tellCode 117 = .ok (.iload_n 1, 1) := by decide +kernel
theorem dX2_tellCode_118 : decode cX2_tellCode 118 = .ok (.bipush 6, 2) := by decide +kernel
theorem dX2_tellCode_120 : decode cX2_tellCode 120 = .ok (.imul, 1) := by decide +kernel
theorem dX2_tellCode_121 : decode cX2_tellCode 121 = .ok (.iload 5, 2) := by decide +kernel
theorem dX2_tellCode_123 : decode cX2_tellCode 123 = .ok (.iadd, 1) := by decide +kernel
theorem dX2_tellCode_124 : decode cX2_tellCode 124 = .ok (.iload 4, 2) := by decide +kernel
theorem dX2_tellCode_126 : decode cX2_tellCode 126 = .ok (.ifCond .eq 13, 3) := by decide +kernel
theorem dX2_tellCode_129 : decode cX2_tellCode 129 = .ok (.aload_n 0, 1) := by decide +kernel
theorem dX2_tellCode_130 : decode cX2_tellCode 130 = .ok (.iload_n 1, 1) := by decide +kernel
theorem dX2_tellCode_131 : decode cX2_tellCode 131 = .ok (.iload 5, 2) := by decide +kernel
theorem dX2_tellCode_133 : decode cX2_tellCode 133 = .ok (.invokevirtual 58, 3) := by decide +kernel
theorem dX2_tellCode_136 : decode cX2_tellCode 136 = .ok (.goto 4, 3) := by decide +kernel
theorem dX2_tellCode_139 : decode cX2_tellCode 139 = .ok (.iload_n 1, 1) := by decide +kernel
theorem dX2_tellCode_140 : decode cX2_tellCode 140 = .ok (.invokestatic 51, 3) := by decide +kernel
theorem dX2_tellCode_143 : decode cX2_tellCode 143 = .ok (.iinc 5 1, 3) := by decide +kernel
theorem dX2_tellCode_146 : decode cX2_tellCode 146 = .ok (.goto (-45), 3) := by decide +kernel
theorem dX2_tellCode_149 : decode cX2_tellCode 149 = .ok (.return_, 1) := by decide +kernel
theorem dX2_done_0 : decode cX2_done 0 = .ok (.aload_n 0, 1) := by decide +kernel
theorem dX2_done_1 : decode cX2_done 1 = .ok (.getfield 12, 3) := by decide +kernel
theorem dX2_done_4 : decode cX2_done 4 = .ok (.getfield 61, 3) := by decide +kernel
theorem dX2_done_7 : decode cX2_done 7 = .ok (.iload_n 2, 1) := by decide +kernel
theorem dX2_done_8 : decode cX2_done 8 = .ok (.invokestatic 64, 3) := by decide +kernel
theorem dX2_done_11 : decode cX2_done 11 = .ok (.istore_n 3, 1) := by decide +kernel
theorem dX2_done_12 : decode cX2_done 12 = .ok (.aload_n 0, 1) := by decide +kernel
theorem dX2_done_13 : decode cX2_done 13 = .ok (.getfield 12, 3) := by decide +kernel
theorem dX2_done_16 : decode cX2_done 16 = .ok (.getfield 68, 3) := by decide +kernel
theorem dX2_done_19 : decode cX2_done 19 = .ok (.iload_n 2, 1) := by decide +kernel
theorem dX2_done_20 : decode cX2_done 20 = .ok (.invokestatic 64, 3) := by decide +kernel
theorem dX2_done_23 : decode cX2_done 23 = .ok (.istore 4, 2) := by decide +kernel
theorem dX2_done_25 : decode cX2_done 25 = .ok (.aload_n 0, 1) := by decide +kernel
theorem dX2_done_26 : decode cX2_done 26 = .ok (.getfield 12, 3) := by decide +kernel
theorem dX2_done_29 : decode cX2_done 29 = .ok (.getfield 71, 3) := by decide +kernel
theorem dX2_done_32 : decode cX2_done 32 = .ok (.iload_n 2, 1) := by decide +kernel
theorem dX2_done_33 : decode cX2_done 33 = .ok (.invokestatic 64, 3) := by decide +kernel
theorem dX2_done_36 : decode cX2_done 36 = .ok (.tableswitch 65 1 3 #[28, 37, 44], 28) := by decide +kernel
theorem dX2_done_64 : decode cX2_done 64 = .ok (.aload_n 0, 1) := by decide +kernel
theorem dX2_done_65 : decode cX2_done 65 = .ok (.iload_n 1, 1) := by decide +kernel
theorem dX2_done_66 : decode cX2_done 66 = .ok (.iload_n 3, 1) := by decide +kernel
theorem dX2_done_67 : decode cX2_done 67 = .ok (.iload 4, 2) := by decide +kernel
theorem dX2_done_69 : decode cX2_done 69 = .ok (.invokevirtual 74, 3) := by decide +kernel
theorem dX2_done_72 : decode cX2_done 72 = .ok (.ireturn, 1) := by decide +kernel
theorem dX2_done_73 : decode cX2_done 73 = .ok (.aload_n 0, 1) := by decide +kernel
theorem dX2_done_74 : decode cX2_done 74 = .ok (.iload_n 1, 1) := by decide +kernel
theorem dX2_done_75 : decode cX2_done 75 = .ok (.iload_n 3, 1) := by decide +kernel
theorem dX2_done_76 : decode cX2_done 76 = .ok (.invokevirtual 78, 3) := by decide +kernel
theorem dX2_done_79 : decode cX2_done 79 = .ok (.ireturn, 1) := by decide +kernel
theorem dX2_done_80 : decode cX2_done 80 = .ok (.aload_n 0, 1) := by decide +kernel
theorem dX2_done_81 : decode cX2_done 81 = .ok (.iload_n 1, 1) := by decide +kernel
theorem dX2_done_82 : decode cX2_done 82 = .ok (.iload 4, 2) := by decide +kernel
theorem dX2_done_84 : decode cX2_done 84 = .ok (.invokevirtual 43, 3) := by decide +kernel
theorem dX2_done_87 : decode cX2_done 87 = .ok (.ifCond .ne 7, 3) := by decide +kernel
theorem dX2_done_90 : decode cX2_done 90 = .ok (.iload_n 1, 1) := by decide +kernel
theorem dX2_done_91 : decode cX2_done 91 = .ok (.goto 9, 3) := by decide +kernel
theorem dX2_done_94 : decode cX2_done 94 = .ok (.aload_n 0, 1) := by decide +kernel
theorem dX2_done_95 : decode cX2_done 95 = .ok (.iload_n 1, 1) := by decide +kernel
theorem dX2_done_96 : decode cX2_done 96 = .ok (.iload_n 3, 1) := by decide +kernel
theorem dX2_done_97 : decode cX2_done 97 = .ok (.invokevirtual 81, 3) := by decide +kernel
theorem dX2_done_100 : decode cX2_done 100 = .ok (.ireturn, 1) := by decide +kernel
theorem dX2_done_101 : decode cX2_done 101 = .ok (.aload_n 0, 1) := by decide +kernel
theorem dX2_done_102 : decode cX2_done 102 = .ok (.iload_n 1, 1) := by decide +kernel
theorem dX2_done_103 : decode cX2_done 103 = .ok (.iload_n 3, 1) := by decide +kernel
theorem dX2_done_104 : decode cX2_done 104 = .ok (.invokevirtual 81, 3) := by decide +kernel
theorem dX2_done_107 : decode cX2_done 107 = .ok (.ireturn, 1) := by decide +kernel
theorem dX2_switched_0 : decode cX2_switched 0 = .ok (.iload_n 1, 1) := by decide +kernel
theorem dX2_switched_1 : decode cX2_switched 1 = .ok (.istore_n 3, 1) := by decide +kernel
theorem dX2_switched_2 : decode cX2_switched 2 = .ok (.iload_n 2, 1) := by decide +kernel
theorem dX2_switched_3 : decode cX2_switched 3 = .ok (.istore 4, 2) := by decide +kernel
theorem dX2_switched_5 : decode cX2_switched 5 = .ok (.iload 4, 2) := by decide +kernel
theorem dX2_switched_7 : decode cX2_switched 7 = .ok (.aload_n 0, 1) := by decide +kernel
theorem dX2_switched_8 : decode cX2_switched 8 = .ok (.getfield 12, 3) := by decide +kernel
theorem dX2_switched_11 : decode cX2_switched 11 = .ok (.getfield 32, 3) := by decide +kernel
theorem dX2_switched_14 : decode cX2_switched 14 = .ok (.if_icmp .ge 32, 3) := by decide +kernel
theorem dX2_switched_17 : decode cX2_switched 17 = .ok (.aload_n 0, 1) := by decide +kernel
theorem dX2_switched_18 : decode cX2_switched 18 = .ok (.iload_n 3, 1) := by decide +kernel
theorem dX2_switched_19 : decode cX2_switched 19 = .ok (.iload 4, 2) := by decide +kernel
theorem dX2_switched_21 : decode cX2_switched 21 = .ok (.aload_n 0, 1) := by decide +kernel
theorem dX2_switched_22 : decode cX2_switched 22 = .ok (.iload_n 1, 1) := by decide +kernel
theorem dX2_switched_23 : decode cX2_switched 23 = .ok (.iload 4, 2) := by decide +kernel
theorem dX2_switched_25 : decode cX2_switched 25 = .ok (.invokevirtual 43, 3) := by decide +kernel
theorem dX2_switched_28 : decode cX2_switched 28 = .ok (.ifCond .ne 7, 3) := by decide +kernel
theorem dX2_switched_31 : decode cX2_switched 31 = .ok (.iconst 1, 1) := by decide +kernel
theorem dX2_switched_32 : decode cX2_switched 32 = .ok (.goto 4, 3) := by decide +kernel
theorem dX2_switched_35 : decode cX2_switched 35 = .ok (.iconst 0, 1) := by decide +kernel
theorem dX2_switched_36 : decode cX2_switched 36 = .ok (.invokevirtual 74, 3) := by decide +kernel
theorem dX2_switched_39 : decode cX2_switched 39 = .ok (.istore_n 3, 1) := by decide +kernel
theorem dX2_switched_40 : decode cX2_switched 40 = .ok (.iinc 4 1, 3) := by decide +kernel
theorem dX2_switched_43 : decode cX2_switched 43 = .ok (.goto (-38), 3) := by decide +kernel
theorem dX2_switched_46 : decode cX2_switched 46 = .ok (.iload_n 3, 1) := by decide +kernel
theorem dX2_switched_47 : decode cX2_switched 47 = .ok (.ireturn, 1) := by decide +kernel
theorem dX2_stepped_0 : decode cX2_stepped 0 = .ok (.aload_n 0, 1) := by decide +kernel
theorem dX2_stepped_1 : decode cX2_stepped 1 = .ok (.iload_n 1, 1) := by decide +kernel
theorem dX2_stepped_2 : decode cX2_stepped 2 = .ok (.iload_n 2, 1) := by decide +kernel
theorem dX2_stepped_3 : decode cX2_stepped 3 = .ok (.invokevirtual 43, 3) := by decide +kernel
theorem dX2_stepped_6 : decode cX2_stepped 6 = .ok (.iconst 1, 1) := by decide +kernel
theorem dX2_stepped_7 : decode cX2_stepped 7 = .ok (.iadd, 1) := by decide +kernel
theorem dX2_stepped_8 : decode cX2_stepped 8 = .ok (.istore_n 3, 1) := by decide +kernel
theorem dX2_stepped_9 : decode cX2_stepped 9 = .ok (.aload_n 0, 1) := by decide +kernel
theorem dX2_stepped_10 : decode cX2_stepped 10 = .ok (.iload_n 1, 1) := by decide +kernel
theorem dX2_stepped_11 : decode cX2_stepped 11 = .ok (.iload_n 2, 1) := by decide +kernel
theorem dX2_stepped_12 : decode cX2_stepped 12 = .ok (.iload_n 3, 1) := by decide +kernel
theorem dX2_stepped_13 : decode cX2_stepped 13 = .ok (.aload_n 0, 1) := by decide +kernel
theorem dX2_stepped_14 : decode cX2_stepped 14 = .ok (.iload_n 2, 1) := by decide +kernel
theorem dX2_stepped_15 : decode cX2_stepped 15 = .ok (.invokevirtual 47, 3) := by decide +kernel
theorem dX2_stepped_18 : decode cX2_stepped 18 = .ok (.if_icmp .ge 7, 3) := by decide +kernel
theorem dX2_stepped_21 : decode cX2_stepped 21 = .ok (.iload_n 3, 1) := by decide +kernel
theorem dX2_stepped_22 : decode cX2_stepped 22 = .ok (.goto 4, 3) := by decide +kernel
theorem dX2_stepped_25 : decode cX2_stepped 25 = .ok (.iconst 0, 1) := by decide +kernel
theorem dX2_stepped_26 : decode cX2_stepped 26 = .ok (.invokevirtual 74, 3) := by decide +kernel
theorem dX2_stepped_29 : decode cX2_stepped 29 = .ok (.ireturn, 1) := by decide +kernel
theorem dX2_with_0 : decode cX2_with 0 = .ok (.aload_n 0, 1) := by decide +kernel
theorem dX2_with_1 : decode cX2_with 1 = .ok (.iload_n 2, 1) := by decide +kernel
theorem dX2_with_2 : decode cX2_with 2 = .ok (.invokevirtual 84, 3) := by decide +kernel
theorem dX2_with_5 : decode cX2_with 5 = .ok (.istore 4, 2) := by decide +kernel
theorem dX2_with_7 : decode cX2_with 7 = .ok (.iload_n 1, 1) := by decide +kernel
theorem dX2_with_8 : decode cX2_with 8 = .ok (.iconst 3, 1) := by decide +kernel
theorem dX2_with_9 : decode cX2_with 9 = .ok (.iload 4, 2) := by decide +kernel
theorem dX2_with_11 : decode cX2_with 11 = .ok (.ishl, 1) := by decide +kernel
theorem dX2_with_12 : decode cX2_with 12 = .ok (.iconst (-1), 1) := by decide +kernel
theorem dX2_with_13 : decode cX2_with 13 = .ok (.ixor, 1) := by decide +kernel
theorem dX2_with_14 : decode cX2_with 14 = .ok (.iand, 1) := by decide +kernel
theorem dX2_with_15 : decode cX2_with 15 = .ok (.iload_n 3, 1) := by decide +kernel
theorem dX2_with_16 : decode cX2_with 16 = .ok (.iload 4, 2) := by decide +kernel
theorem dX2_with_18 : decode cX2_with 18 = .ok (.ishl, 1) := by decide +kernel
theorem dX2_with_19 : decode cX2_with 19 = .ok (.ior, 1) := by decide +kernel
theorem dX2_with_20 : decode cX2_with 20 = .ok (.ireturn, 1) := by decide +kernel
theorem dX2_shiftOf_0 : decode cX2_shiftOf 0 = .ok (.iconst 2, 1) := by decide +kernel
theorem dX2_shiftOf_1 : decode cX2_shiftOf 1 = .ok (.aload_n 0, 1) := by decide +kernel
theorem dX2_shiftOf_2 : decode cX2_shiftOf 2 = .ok (.getfield 12, 3) := by decide +kernel
theorem dX2_shiftOf_5 : decode cX2_shiftOf 5 = .ok (.getfield 32, 3) := by decide +kernel
theorem dX2_shiftOf_8 : decode cX2_shiftOf 8 = .ok (.iconst 1, 1) := by decide +kernel
theorem dX2_shiftOf_9 : decode cX2_shiftOf 9 = .ok (.isub, 1) := by decide +kernel
theorem dX2_shiftOf_10 : decode cX2_shiftOf 10 = .ok (.iload_n 1, 1) := by decide +kernel
theorem dX2_shiftOf_11 : decode cX2_shiftOf 11 = .ok (.isub, 1) := by decide +kernel
theorem dX2_shiftOf_12 : decode cX2_shiftOf 12 = .ok (.imul, 1) := by decide +kernel
theorem dX2_shiftOf_13 : decode cX2_shiftOf 13 = .ok (.ireturn, 1) := by decide +kernel
theorem dX2_stateIn_0 : decode cX2_stateIn 0 = .ok (.iload_n 1, 1) := by decide +kernel
theorem dX2_stateIn_1 : decode cX2_stateIn 1 = .ok (.aload_n 0, 1) := by decide +kernel
theorem dX2_stateIn_2 : decode cX2_stateIn 2 = .ok (.iload_n 2, 1) := by decide +kernel
theorem dX2_stateIn_3 : decode cX2_stateIn 3 = .ok (.invokevirtual 84, 3) := by decide +kernel
theorem dX2_stateIn_6 : decode cX2_stateIn 6 = .ok (.ishr, 1) := by decide +kernel
theorem dX2_stateIn_7 : decode cX2_stateIn 7 = .ok (.iconst 3, 1) := by decide +kernel
theorem dX2_stateIn_8 : decode cX2_stateIn 8 = .ok (.iand, 1) := by decide +kernel
theorem dX2_stateIn_9 : decode cX2_stateIn 9 = .ok (.ireturn, 1) := by decide +kernel
theorem dX2_firstCode_0 : decode cX2_firstCode 0 = .ok (.iconst 0, 1) := by decide +kernel
theorem dX2_firstCode_1 : decode cX2_firstCode 1 = .ok (.istore_n 1, 1) := by decide +kernel
theorem dX2_firstCode_2 : decode cX2_firstCode 2 = .ok (.iconst 0, 1) := by decide +kernel
theorem dX2_firstCode_3 : decode cX2_firstCode 3 = .ok (.istore_n 2, 1) := by decide +kernel
theorem dX2_firstCode_4 : decode cX2_firstCode 4 = .ok (.iload_n 2, 1) := by decide +kernel
theorem dX2_firstCode_5 : decode cX2_firstCode 5 = .ok (.aload_n 0, 1) := by decide +kernel
theorem dX2_firstCode_6 : decode cX2_firstCode 6 = .ok (.getfield 12, 3) := by decide +kernel
theorem dX2_firstCode_9 : decode cX2_firstCode 9 = .ok (.getfield 32, 3) := by decide +kernel
theorem dX2_firstCode_12 : decode cX2_firstCode 12 = .ok (.if_icmp .ge 27, 3) := by decide +kernel
theorem dX2_firstCode_15 : decode cX2_firstCode 15 = .ok (.aload_n 0, 1) := by decide +kernel
theorem dX2_firstCode_16 : decode cX2_firstCode 16 = .ok (.iload_n 1, 1) := by decide +kernel
theorem dX2_firstCode_17 : decode cX2_firstCode 17 = .ok (.iload_n 2, 1) := by decide +kernel
theorem dX2_firstCode_18 : decode cX2_firstCode 18 = .ok (.aload_n 0, 1) := by decide +kernel
theorem dX2_firstCode_19 : decode cX2_firstCode 19 = .ok (.getfield 12, 3) := by decide +kernel
theorem dX2_firstCode_22 : decode cX2_firstCode 22 = .ok (.getfield 87, 3) := by decide +kernel
theorem dX2_firstCode_25 : decode cX2_firstCode 25 = .ok (.iload_n 2, 1) := by decide +kernel
theorem dX2_firstCode_26 : decode cX2_firstCode 26 = .ok (.invokestatic 64, 3) := by decide +kernel
theorem dX2_firstCode_29 : decode cX2_firstCode 29 = .ok (.invokevirtual 74, 3) := by decide +kernel
theorem dX2_firstCode_32 : decode cX2_firstCode 32 = .ok (.istore_n 1, 1) := by decide +kernel
theorem dX2_firstCode_33 : decode cX2_firstCode 33 = .ok (.iinc 2 1, 3) := by decide +kernel
theorem dX2_firstCode_36 : decode cX2_firstCode 36 = .ok (.goto (-32), 3) := by decide +kernel
theorem dX2_firstCode_39 : decode cX2_firstCode 39 = .ok (.iload_n 1, 1) := by decide +kernel
theorem dX2_firstCode_40 : decode cX2_firstCode 40 = .ok (.ireturn, 1) := by decide +kernel
theorem dX2_codeOf_0 : decode cX2_codeOf 0 = .ok (.iload_n 1, 1) := by decide +kernel
theorem dX2_codeOf_1 : decode cX2_codeOf 1 = .ok (.istore_n 2, 1) := by decide +kernel
theorem dX2_codeOf_2 : decode cX2_codeOf 2 = .ok (.iconst 0, 1) := by decide +kernel
theorem dX2_codeOf_3 : decode cX2_codeOf 3 = .ok (.istore_n 3, 1) := by decide +kernel
theorem dX2_codeOf_4 : decode cX2_codeOf 4 = .ok (.aload_n 0, 1) := by decide +kernel
theorem dX2_codeOf_5 : decode cX2_codeOf 5 = .ok (.getfield 12, 3) := by decide +kernel
theorem dX2_codeOf_8 : decode cX2_codeOf 8 = .ok (.getfield 32, 3) := by decide +kernel
theorem dX2_codeOf_11 : decode cX2_codeOf 11 = .ok (.iconst 1, 1) := by decide +kernel
theorem dX2_codeOf_12 : decode cX2_codeOf 12 = .ok (.isub, 1) := by decide +kernel
theorem dX2_codeOf_13 : decode cX2_codeOf 13 = .ok (.istore 4, 2) := by decide +kernel
theorem dX2_codeOf_15 : decode cX2_codeOf 15 = .ok (.iload 4, 2) := by decide +kernel
theorem dX2_codeOf_17 : decode cX2_codeOf 17 = .ok (.ifCond .lt 48, 3) := by decide +kernel
theorem dX2_codeOf_20 : decode cX2_codeOf 20 = .ok (.iload_n 2, 1) := by decide +kernel
theorem dX2_codeOf_21 : decode cX2_codeOf 21 = .ok (.bipush 10, 2) := by decide +kernel
theorem dX2_codeOf_23 : decode cX2_codeOf 23 = .ok (.irem, 1) := by decide +kernel
theorem dX2_codeOf_24 : decode cX2_codeOf 24 = .ok (.istore 5, 2) := by decide +kernel
theorem dX2_codeOf_26 : decode cX2_codeOf 26 = .ok (.iload 5, 2) := by decide +kernel
theorem dX2_codeOf_28 : decode cX2_codeOf 28 = .ok (.ifCond .lt 14, 3) := by decide +kernel
theorem dX2_codeOf_31 : decode cX2_codeOf 31 = .ok (.iload 5, 2) := by decide +kernel
theorem dX2_codeOf_33 : decode cX2_codeOf 33 = .ok (.aload_n 0, 1) := by decide +kernel
theorem dX2_codeOf_34 : decode cX2_codeOf 34 = .ok (.iload 4, 2) := by decide +kernel
theorem dX2_codeOf_36 : decode cX2_codeOf 36 = .ok (.invokevirtual 47, 3) := by decide +kernel
theorem dX2_codeOf_39 : decode cX2_codeOf 39 = .ok (.if_icmp .lt 5, 3) := by decide +kernel
theorem dX2_codeOf_42 : decode cX2_codeOf 42 = .ok (.iconst (-1), 1) := by decide +kernel
theorem dX2_codeOf_43 : decode cX2_codeOf 43 = .ok (.ireturn, 1) := by decide +kernel
theorem dX2_codeOf_44 : decode cX2_codeOf 44 = .ok (.aload_n 0, 1) := by decide +kernel
theorem dX2_codeOf_45 : decode cX2_codeOf 45 = .ok (.iload_n 3, 1) := by decide +kernel
theorem dX2_codeOf_46 : decode cX2_codeOf 46 = .ok (.iload 4, 2) := by decide +kernel
theorem dX2_codeOf_48 : decode cX2_codeOf 48 = .ok (.iload 5, 2) := by decide +kernel
theorem dX2_codeOf_50 : decode cX2_codeOf 50 = .ok (.invokevirtual 74, 3) := by decide +kernel
theorem dX2_codeOf_53 : decode cX2_codeOf 53 = .ok (.istore_n 3, 1) := by decide +kernel
theorem dX2_codeOf_54 : decode cX2_codeOf 54 = .ok (.iload_n 2, 1) := by decide +kernel
theorem dX2_codeOf_55 : decode cX2_codeOf 55 = .ok (.bipush 10, 2) := by decide +kernel
theorem dX2_codeOf_57 : decode cX2_codeOf 57 = .ok (.idiv, 1) := by decide +kernel
theorem dX2_codeOf_58 : decode cX2_codeOf 58 = .ok (.istore_n 2, 1) := by decide +kernel
theorem dX2_codeOf_59 : decode cX2_codeOf 59 = .ok (.iinc 4 (-1), 3) := by decide +kernel
theorem dX2_codeOf_62 : decode cX2_codeOf 62 = .ok (.goto (-47), 3) := by decide +kernel
theorem dX2_codeOf_65 : decode cX2_codeOf 65 = .ok (.iload_n 2, 1) := by decide +kernel
theorem dX2_codeOf_66 : decode cX2_codeOf 66 = .ok (.ifCond .ne 7, 3) := by decide +kernel
theorem dX2_codeOf_69 : decode cX2_codeOf 69 = .ok (.iload_n 3, 1) := by decide +kernel
theorem dX2_codeOf_70 : decode cX2_codeOf 70 = .ok (.goto 4, 3) := by decide +kernel
theorem dX2_codeOf_73 : decode cX2_codeOf 73 = .ok (.iconst (-1), 1) := by decide +kernel
theorem dX2_codeOf_74 : decode cX2_codeOf 74 = .ok (.ireturn, 1) := by decide +kernel
theorem dX2_behind_0 : decode cX2_behind 0 = .ok (.aload_n 0, 1) := by decide +kernel
theorem dX2_behind_1 : decode cX2_behind 1 = .ok (.getfield 25, 3) := by decide +kernel
theorem dX2_behind_4 : decode cX2_behind 4 = .ok (.iload_n 1, 1) := by decide +kernel
theorem dX2_behind_5 : decode cX2_behind 5 = .ok (.bipush 6, 2) := by decide +kernel
theorem dX2_behind_7 : decode cX2_behind 7 = .ok (.imul, 1) := by decide +kernel
theorem dX2_behind_8 : decode cX2_behind 8 = .ok (.iload_n 2, 1) := by decide +kernel
theorem dX2_behind_9 : decode cX2_behind 9 = .ok (.iadd, 1) := by decide +kernel
theorem dX2_behind_10 : decode cX2_behind 10 = .ok (.invokestatic 64, 3) := by decide +kernel
theorem dX2_behind_13 : decode cX2_behind 13 = .ok (.ireturn, 1) := by decide +kernel
theorem dX2_isReal_0 : decode cX2_isReal 0 = .ok (.aload_n 0, 1) := by decide +kernel
theorem dX2_isReal_1 : decode cX2_isReal 1 = .ok (.iload_n 1, 1) := by decide +kernel
theorem dX2_isReal_2 : decode cX2_isReal 2 = .ok (.invokevirtual 90, 3) := by decide +kernel
theorem dX2_isReal_5 : decode cX2_isReal 5 = .ok (.iconst (-1), 1) := by decide +kernel
theorem dX2_isReal_6 : decode cX2_isReal 6 = .ok (.if_icmp .eq 7, 3) := by decide +kernel
theorem dX2_isReal_9 : decode cX2_isReal 9 = .ok (.iconst 1, 1) := by decide +kernel
theorem dX2_isReal_10 : decode cX2_isReal 10 = .ok (.goto 4, 3) := by decide +kernel
theorem dX2_isReal_13 : decode cX2_isReal 13 = .ok (.iconst 0, 1) := by decide +kernel
theorem dX2_isReal_14 : decode cX2_isReal 14 = .ok (.ireturn, 1) := by decide +kernel
theorem dX2_messOf_0 : decode cX2_messOf 0 = .ok (.aload_n 0, 1) := by decide +kernel
theorem dX2_messOf_1 : decode cX2_messOf 1 = .ok (.getfield 18, 3) := by decide +kernel
theorem dX2_messOf_4 : decode cX2_messOf 4 = .ok (.iload_n 1, 1) := by decide +kernel
theorem dX2_messOf_5 : decode cX2_messOf 5 = .ok (.invokestatic 64, 3) := by decide +kernel
theorem dX2_messOf_8 : decode cX2_messOf 8 = .ok (.ireturn, 1) := by decide +kernel
theorem dX2_lightsIn_0 : decode cX2_lightsIn 0 = .ok (.aload_n 0, 1) := by decide +kernel
theorem dX2_lightsIn_1 : decode cX2_lightsIn 1 = .ok (.getfield 22, 3) := by decide +kernel
theorem dX2_lightsIn_4 : decode cX2_lightsIn 4 = .ok (.iload_n 1, 1) := by decide +kernel
theorem dX2_lightsIn_5 : decode cX2_lightsIn 5 = .ok (.invokestatic 64, 3) := by decide +kernel
theorem dX2_lightsIn_8 : decode cX2_lightsIn 8 = .ok (.ireturn, 1) := by decide +kernel
theorem dX2_things_0 : decode cX2_things 0 = .ok (.aload_n 0, 1) := by decide +kernel
theorem dX2_things_1 : decode cX2_things 1 = .ok (.getfield 12, 3) := by decide +kernel
theorem dX2_things_4 : decode cX2_things 4 = .ok (.getfield 32, 3) := by decide +kernel
theorem dX2_things_7 : decode cX2_things 7 = .ok (.ireturn, 1) := by decide +kernel
theorem dX2_buttons_0 : decode cX2_buttons 0 = .ok (.aload_n 0, 1) := by decide +kernel
theorem dX2_buttons_1 : decode cX2_buttons 1 = .ok (.getfield 12, 3) := by decide +kernel
theorem dX2_buttons_4 : decode cX2_buttons 4 = .ok (.getfield 55, 3) := by decide +kernel
theorem dX2_buttons_7 : decode cX2_buttons 7 = .ok (.ireturn, 1) := by decide +kernel
theorem dX2_everyButton_0 : decode cX2_everyButton 0 = .ok (.iconst 1, 1) := by decide +kernel
theorem dX2_everyButton_1 : decode cX2_everyButton 1 = .ok (.aload_n 0, 1) := by decide +kernel
theorem dX2_everyButton_2 : decode cX2_everyButton 2 = .ok (.getfield 12, 3) := by decide +kernel
theorem dX2_everyButton_5 : decode cX2_everyButton 5 = .ok (.getfield 55, 3) := by decide +kernel
theorem dX2_everyButton_8 : decode cX2_everyButton 8 = .ok (.ishl, 1) := by decide +kernel
theorem dX2_everyButton_9 : decode cX2_everyButton 9 = .ok (.iconst 1, 1) := by decide +kernel
theorem dX2_everyButton_10 : decode cX2_everyButton 10 = .ok (.isub, 1) := by decide +kernel
theorem dX2_everyButton_11 : decode cX2_everyButton 11 = .ok (.ireturn, 1) := by decide +kernel
theorem dX2_hasThing_0 : decode cX2_hasThing 0 = .ok (.iload_n 1, 1) := by decide +kernel
theorem dX2_hasThing_1 : decode cX2_hasThing 1 = .ok (.ifCond .lt 18, 3) := by decide +kernel
theorem dX2_hasThing_4 : decode cX2_hasThing 4 = .ok (.iload_n 1, 1) := by decide +kernel
theorem dX2_hasThing_5 : decode cX2_hasThing 5 = .ok (.aload_n 0, 1) := by decide +kernel
theorem dX2_hasThing_6 : decode cX2_hasThing 6 = .ok (.getfield 12, 3) := by decide +kernel
theorem dX2_hasThing_9 : decode cX2_hasThing 9 = .ok (.getfield 32, 3) := by decide +kernel
theorem dX2_hasThing_12 : decode cX2_hasThing 12 = .ok (.if_icmp .ge 7, 3) := by decide +kernel
theorem dX2_hasThing_15 : decode cX2_hasThing 15 = .ok (.iconst 1, 1) := by decide +kernel
theorem dX2_hasThing_16 : decode cX2_hasThing 16 = .ok (.goto 4, 3) := by decide +kernel
theorem dX2_hasThing_19 : decode cX2_hasThing 19 = .ok (.iconst 0, 1) := by decide +kernel
theorem dX2_hasThing_20 : decode cX2_hasThing 20 = .ok (.ireturn, 1) := by decide +kernel
theorem dX2_hasButton_0 : decode cX2_hasButton 0 = .ok (.iload_n 1, 1) := by decide +kernel
theorem dX2_hasButton_1 : decode cX2_hasButton 1 = .ok (.ifCond .lt 18, 3) := by decide +kernel
theorem dX2_hasButton_4 : decode cX2_hasButton 4 = .ok (.iload_n 1, 1) := by decide +kernel
theorem dX2_hasButton_5 : decode cX2_hasButton 5 = .ok (.aload_n 0, 1) := by decide +kernel
theorem dX2_hasButton_6 : decode cX2_hasButton 6 = .ok (.getfield 12, 3) := by decide +kernel
theorem dX2_hasButton_9 : decode cX2_hasButton 9 = .ok (.getfield 55, 3) := by decide +kernel
theorem dX2_hasButton_12 : decode cX2_hasButton 12 = .ok (.if_icmp .ge 7, 3) := by decide +kernel
theorem dX2_hasButton_15 : decode cX2_hasButton 15 = .ok (.iconst 1, 1) := by decide +kernel
theorem dX2_hasButton_16 : decode cX2_hasButton 16 = .ok (.goto 4, 3) := by decide +kernel
theorem dX2_hasButton_19 : decode cX2_hasButton 19 = .ok (.iconst 0, 1) := by decide +kernel
theorem dX2_hasButton_20 : decode cX2_hasButton 20 = .ok (.ireturn, 1) := by decide +kernel
theorem dX2_statesOf_0 : decode cX2_statesOf 0 = .ok (.aload_n 0, 1) := by decide +kernel
theorem dX2_statesOf_1 : decode cX2_statesOf 1 = .ok (.getfield 12, 3) := by decide +kernel
theorem dX2_statesOf_4 : decode cX2_statesOf 4 = .ok (.getfield 93, 3) := by decide +kernel
theorem dX2_statesOf_7 : decode cX2_statesOf 7 = .ok (.iload_n 1, 1) := by decide +kernel
theorem dX2_statesOf_8 : decode cX2_statesOf 8 = .ok (.invokestatic 64, 3) := by decide +kernel
theorem dX2_statesOf_11 : decode cX2_statesOf 11 = .ok (.ireturn, 1) := by decide +kernel
theorem dX3_init_0 : decode cX3_init 0 = .ok (.aload_n 0, 1) := by decide +kernel
theorem dX3_init_1 : decode cX3_init 1 = .ok (.invokespecial 3, 3) := by decide +kernel
theorem dX3_init_4 : decode cX3_init 4 = .ok (.aload_n 0, 1) := by decide +kernel
theorem dX3_init_5 : decode cX3_init 5 = .ok (.new 9, 3) := by decide +kernel
theorem dX3_init_8 : decode cX3_init 8 = .ok (.dup, 1) := by decide +kernel
theorem dX3_init_9 : decode cX3_init 9 = .ok (.invokespecial 11, 3) := by decide +kernel
theorem dX3_init_12 : decode cX3_init 12 = .ok (.putfield 12, 3) := by decide +kernel
theorem dX3_init_15 : decode cX3_init 15 = .ok (.return_, 1) := by decide +kernel
theorem dX3_firstFault_0 : decode cX3_firstFault 0 = .ok (.aload_n 0, 1) := by decide +kernel
theorem dX3_firstFault_1 : decode cX3_firstFault 1 = .ok (.getfield 12, 3) := by decide +kernel
theorem dX3_firstFault_4 : decode cX3_firstFault 4 = .ok (.iconst 0, 1) := by decide +kernel
theorem dX3_firstFault_5 : decode cX3_firstFault 5 = .ok (.putfield 18, 3) := by decide +kernel
theorem dX3_firstFault_8 : decode cX3_firstFault 8 = .ok (.aload_n 0, 1) := by decide +kernel
theorem dX3_firstFault_9 : decode cX3_firstFault 9 = .ok (.getfield 12, 3) := by decide +kernel
theorem dX3_firstFault_12 : decode cX3_firstFault 12 = .ok (.iconst 0, 1) := by decide +kernel
theorem dX3_firstFault_13 : decode cX3_firstFault 13 = .ok (.putfield 22, 3) := by decide +kernel
theorem dX3_firstFault_16 : decode cX3_firstFault 16 = .ok (.aload_n 1, 1) := by decide +kernel
theorem dX3_firstFault_17 : decode cX3_firstFault 17 = .ok (.iconst 0, 1) := by decide +kernel
theorem dX3_firstFault_18 : decode cX3_firstFault 18 = .ok (.invokevirtual 25, 3) := by decide +kernel
theorem dX3_firstFault_21 : decode cX3_firstFault 21 = .ok (.bipush 82, 2) := by decide +kernel
theorem dX3_firstFault_23 : decode cX3_firstFault 23 = .ok (.if_icmp .eq 5, 3) := by decide +kernel
theorem dX3_firstFault_26 : decode cX3_firstFault 26 = .ok (.iconst 0, 1) := by decide +kernel
theorem dX3_firstFault_27 : decode cX3_firstFault 27 = .ok (.ireturn, 1) := by decide +kernel
theorem dX3_firstFault_28 : decode cX3_firstFault 28 = .ok (.iconst 1, 1) := by decide +kernel
theorem dX3_firstFault_29 : decode cX3_firstFault 29 = .ok (.istore_n 2, 1) := by decide +kernel
theorem dX3_firstFault_30 : decode cX3_firstFault 30 = .ok (.iload_n 2, 1) := by decide +kernel
theorem dX3_firstFault_31 : decode cX3_firstFault 31 = .ok (.aload_n 1, 1) := by decide +kernel
theorem dX3_firstFault_32 : decode cX3_firstFault 32 = .ok (.invokevirtual 31, 3) := by decide +kernel
theorem dX3_firstFault_35 : decode cX3_firstFault 35 = .ok (.if_icmp .ge 75, 3) := by decide +kernel
theorem dX3_firstFault_38 : decode cX3_firstFault 38 = .ok (.aload_n 1, 1) := by decide +kernel
theorem dX3_firstFault_39 : decode cX3_firstFault 39 = .ok (.iload_n 2, 1) := by decide +kernel
theorem dX3_firstFault_40 : decode cX3_firstFault 40 = .ok (.invokevirtual 25, 3) := by decide +kernel
theorem dX3_firstFault_43 : decode cX3_firstFault 43 = .ok (.istore_n 3, 1) := by decide +kernel
theorem dX3_firstFault_44 : decode cX3_firstFault 44 = .ok (.iload_n 3, 1) := by decide +kernel
theorem dX3_firstFault_45 : decode cX3_firstFault 45 = .ok (.bipush 84, 2) := by decide +kernel
theorem dX3_firstFault_47 : decode cX3_firstFault 47 = .ok (.if_icmp .ne 7, 3) := by decide +kernel
theorem dX3_firstFault_50 : decode cX3_firstFault 50 = .ok (.iconst 3, 1) := by decide +kernel
theorem dX3_firstFault_51 : decode cX3_firstFault 51 = .ok (.goto 4, 3) := by decide +kernel
theorem dX3_firstFault_54 : decode cX3_firstFault 54 = .ok (.iconst 4, 1) := by decide +kernel
theorem dX3_firstFault_55 : decode cX3_firstFault 55 = .ok (.istore 4, 2) := by decide +kernel
theorem dX3_firstFault_57 : decode cX3_firstFault 57 = .ok (.iload_n 3, 1) := by decide +kernel
theorem dX3_firstFault_58 : decode cX3_firstFault 58 = .ok (.bipush 84, 2) := by decide +kernel
theorem dX3_firstFault_60 : decode cX3_firstFault 60 = .ok (.if_icmp .ne 12, 3) := by decide +kernel
theorem dX3_firstFault_63 : decode cX3_firstFault 63 = .ok (.aload_n 0, 1) := by decide +kernel
theorem dX3_firstFault_64 : decode cX3_firstFault 64 = .ok (.aload_n 1, 1) := by decide +kernel
theorem dX3_firstFault_65 : decode cX3_firstFault 65 = .ok (.iload_n 2, 1) := by decide +kernel
theorem dX3_firstFault_66 : decode cX3_firstFault 66 = .ok (.invokevirtual 35, 3) := by decide +kernel
theorem dX3_firstFault_69 : decode cX3_firstFault 69 = .ok (.goto 19, 3) := by decide +kernel
theorem dX3_firstFault_72 : decode cX3_firstFault 72 = .ok (.iload_n 3, 1) := by decide +kernel
theorem dX3_firstFault_73 : decode cX3_firstFault 73 = .ok (.bipush 66, 2) := by decide +kernel
theorem dX3_firstFault_75 : decode cX3_firstFault 75 = .ok (.if_icmp .ne 12, 3) := by decide +kernel
theorem dX3_firstFault_78 : decode cX3_firstFault 78 = .ok (.aload_n 0, 1) := by decide +kernel
theorem dX3_firstFault_79 : decode cX3_firstFault 79 = .ok (.aload_n 1, 1) := by decide +kernel
theorem dX3_firstFault_80 : decode cX3_firstFault 80 = .ok (.iload_n 2, 1) := by decide +kernel
theorem dX3_firstFault_81 : decode cX3_firstFault 81 = .ok (.invokevirtual 39, 3) := by decide +kernel
theorem dX3_firstFault_84 : decode cX3_firstFault 84 = .ok (.goto 4, 3) := by decide +kernel
theorem dX3_firstFault_87 : decode cX3_firstFault 87 = .ok (.iconst 0, 1) := by decide +kernel
theorem dX3_firstFault_88 : decode cX3_firstFault 88 = .ok (.istore 5, 2) := by decide +kernel
theorem dX3_firstFault_90 : decode cX3_firstFault 90 = .ok (.iload 5, 2) := by decide +kernel
theorem dX3_firstFault_92 : decode cX3_firstFault 92 = .ok (.iload 4, 2) := by decide +kernel
theorem dX3_firstFault_94 : decode cX3_firstFault 94 = .ok (.if_icmp .ge 8, 3) := by decide +kernel
theorem dX3_firstFault_97 : decode cX3_firstFault 97 = .ok (.iload_n 2, 1) := by decide +kernel
theorem dX3_firstFault_98 : decode cX3_firstFault 98 = .ok (.iload 5, 2) := by decide +kernel
theorem dX3_firstFault_100 : decode cX3_firstFault 100 = .ok (.iadd, 1) := by decide +kernel
theorem dX3_firstFault_101 : decode cX3_firstFault 101 = .ok (.ireturn, 1) := by decide +kernel
theorem dX3_firstFault_102 : decode cX3_firstFault 102 = .ok (.iload_n 2, 1) := by decide +kernel
theorem dX3_firstFault_103 : decode cX3_firstFault 103 = .ok (.iload 4, 2) := by decide +kernel
theorem dX3_firstFault_105 : decode cX3_firstFault 105 = .ok (.iadd, 1) := by decide +kernel
theorem dX3_firstFault_106 : decode cX3_firstFault 106 = .ok (.istore_n 2, 1) := by decide +kernel
theorem dX3_firstFault_107 : decode cX3_firstFault 107 = .ok (.goto (-77), 3) := by decide +kernel
theorem dX3_firstFault_110 : decode cX3_firstFault 110 = .ok (.bipush (-9), 2) := by decide +kernel
theorem dX3_firstFault_112 : decode cX3_firstFault 112 = .ok (.ireturn, 1) := by decide +kernel
theorem dX3_readThing_0 : decode cX3_readThing 0 = .ok (.aload_n 0, 1) := by decide +kernel
theorem dX3_readThing_1 : decode cX3_readThing 1 = .ok (.getfield 12, 3) := by decide +kernel
theorem dX3_readThing_4 : decode cX3_readThing 4 = .ok (.getfield 18, 3) := by decide +kernel
theorem dX3_readThing_7 : decode cX3_readThing 7 = .ok (.iconst 4, 1) := by decide +kernel
theorem dX3_readThing_8 : decode cX3_readThing 8 = .ok (.if_icmp .lt 5, 3) := by decide +kernel
theorem dX3_readThing_11 : decode cX3_readThing 11 = .ok (.iconst 0, 1) := by decide +kernel
theorem dX3_readThing_12 : decode cX3_readThing 12 = .ok (.ireturn, 1) := by decide +kernel
theorem dX3_readThing_13 : decode cX3_readThing 13 = .ok (.aload_n 1, 1) := by decide +kernel
theorem dX3_readThing_14 : decode cX3_readThing 14 = .ok (.iload_n 2, 1) := by decide +kernel
theorem dX3_readThing_15 : decode cX3_readThing 15 = .ok (.iconst 1, 1) := by decide +kernel
theorem dX3_readThing_16 : decode cX3_readThing 16 = .ok (.iadd, 1) := by decide +kernel
theorem dX3_readThing_17 : decode cX3_readThing 17 = .ok (.invokevirtual 42, 3) := by decide +kernel
theorem dX3_readThing_20 : decode cX3_readThing 20 = .ok (.istore_n 3, 1) := by decide +kernel
theorem dX3_readThing_21 : decode cX3_readThing 21 = .ok (.iload_n 3, 1) := by decide +kernel
theorem dX3_readThing_22 : decode cX3_readThing 22 = .ok (.iconst 2, 1) := by decide +kernel
theorem dX3_readThing_23 : decode cX3_readThing 23 = .ok (.if_icmp .lt 8, 3) := by decide +kernel
theorem dX3_readThing_26 : decode cX3_readThing 26 = .ok (.iload_n 3, 1) := by decide +kernel
theorem dX3_readThing_27 : decode cX3_readThing 27 = .ok (.iconst 4, 1) := by decide +kernel
theorem dX3_readThing_28 : decode cX3_readThing 28 = .ok (.if_icmp .le 5, 3) := by decide +kernel
theorem dX3_readThing_31 : decode cX3_readThing 31 = .ok (.iconst 1, 1) := by decide +kernel
theorem dX3_readThing_32 : decode cX3_readThing 32 = .ok (.ireturn, 1) := by decide +kernel
theorem dX3_readThing_33 : decode cX3_readThing 33 = .ok (.aload_n 1, 1) := by decide +kernel
theorem dX3_readThing_34 : decode cX3_readThing 34 = .ok (.iload_n 2, 1) := by decide +kernel
theorem dX3_readThing_35 : decode cX3_readThing 35 = .ok (.iconst 2, 1) := by decide +kernel
theorem dX3_readThing_36 : decode cX3_readThing 36 = .ok (.iadd, 1) := by decide +kernel
theorem dX3_readThing_37 : decode cX3_readThing 37 = .ok (.invokevirtual 42, 3) := by decide +kernel
theorem dX3_readThing_40 : decode cX3_readThing 40 = .ok (.istore 4, 2) := by decide +kernel
theorem dX3_readThing_42 : decode cX3_readThing 42 = .ok (.iload 4, 2) := by decide +kernel
theorem dX3_readThing_44 : decode cX3_readThing 44 = .ok (.ifCond .lt 9, 3) := by decide +kernel
theorem dX3_readThing_47 : decode cX3_readThing 47 = .ok (.iload 4, 2) := by decide +kernel
theorem dX3_readThing_49 : decode cX3_readThing 49 = .ok (.iload_n 3, 1) := by decide +kernel
theorem dX3_readThing_50 : decode cX3_readThing 50 = .ok (.if_icmp .lt 5, 3) := by decide +kernel
theorem dX3_readThing_53 : decode cX3_readThing 53 = .ok (.iconst 2, 1) := by decide +kernel
theorem dX3_readThing_54 : decode cX3_readThing 54 = .ok (.ireturn, 1) := by decide +kernel
theorem dX3_readThing_55 : decode cX3_readThing 55 = .ok (.aload_n 0, 1) := by decide +kernel
theorem dX3_readThing_56 : decode cX3_readThing 56 = .ok (.getfield 12, 3) := by decide +kernel
theorem dX3_readThing_59 : decode cX3_readThing 59 = .ok (.iload_n 3, 1) := by decide +kernel
theorem dX3_readThing_60 : decode cX3_readThing 60 = .ok (.iload 4, 2) := by decide +kernel
theorem dX3_readThing_62 : decode cX3_readThing 62 = .ok (.invokevirtual 45, 3) := by decide +kernel
theorem dX3_readThing_65 : decode cX3_readThing 65 = .ok (.iconst 3, 1) := by decide +kernel
theorem dX3_readThing_66 : decode cX3_readThing 66 = .ok (.ireturn, 1) := by decide +kernel
theorem dX3_readButton_0 : decode cX3_readButton 0 = .ok (.aload_n 0, 1) := by decide +kernel
theorem dX3_readButton_1 : decode cX3_readButton 1 = .ok (.getfield 12, 3) := by decide +kernel
theorem dX3_readButton_4 : decode cX3_readButton 4 = .ok (.getfield 22, 3) := by decide +kernel
theorem dX3_readButton_7 : decode cX3_readButton 7 = .ok (.bipush 6, 2) := by decide +kernel
theorem dX3_readButton_9 : decode cX3_readButton 9 = .ok (.if_icmp .ge 13, 3) := by decide +kernel
theorem dX3_readButton_12 : decode cX3_readButton 12 = .ok (.aload_n 0, 1) := by decide +kernel
theorem dX3_readButton_13 : decode cX3_readButton 13 = .ok (.getfield 12, 3) := by decide +kernel
theorem dX3_readButton_16 : decode cX3_readButton 16 = .ok (.getfield 18, 3) := by decide +kernel
theorem dX3_readButton_19 : decode cX3_readButton 19 = .ok (.ifCond .ne 5, 3) := by decide +kernel
theorem dX3_readButton_22 : decode cX3_readButton 22 = .ok (.iconst 0, 1) := by decide +kernel
theorem dX3_readButton_23 : decode cX3_readButton 23 = .ok (.ireturn, 1) := by decide +kernel
theorem dX3_readButton_24 : decode cX3_readButton 24 = .ok (.aload_n 1, 1) := by decide +kernel
theorem dX3_readButton_25 : decode cX3_readButton 25 = .ok (.iload_n 2, 1) := by decide +kernel
theorem dX3_readButton_26 : decode cX3_readButton 26 = .ok (.iconst 1, 1) := by decide +kernel
theorem dX3_readButton_27 : decode cX3_readButton 27 = .ok (.iadd, 1) := by decide +kernel
theorem dX3_readButton_28 : decode cX3_readButton 28 = .ok (.invokevirtual 42, 3) := by decide +kernel
theorem dX3_readButton_31 : decode cX3_readButton 31 = .ok (.istore_n 3, 1) := by decide +kernel
theorem dX3_readButton_32 : decode cX3_readButton 32 = .ok (.iload_n 3, 1) := by decide +kernel
theorem dX3_readButton_33 : decode cX3_readButton 33 = .ok (.ifCond .lt 14, 3) := by decide +kernel
theorem dX3_readButton_36 : decode cX3_readButton 36 = .ok (.iload_n 3, 1) := by decide +kernel
theorem dX3_readButton_37 : decode cX3_readButton 37 = .ok (.aload_n 0, 1) := by decide +kernel
theorem dX3_readButton_38 : decode cX3_readButton 38 = .ok (.getfield 12, 3) := by decide +kernel
theorem dX3_readButton_41 : decode cX3_readButton 41 = .ok (.getfield 18, 3) := by decide +kernel
theorem dX3_readButton_44 : decode cX3_readButton 44 = .ok (.if_icmp .lt 5, 3) := by decide +kernel
theorem dX3_readButton_47 : decode cX3_readButton 47 = .ok (.iconst 1, 1) := by decide +kernel
theorem dX3_readButton_48 : decode cX3_readButton 48 = .ok (.ireturn, 1) := by decide +kernel
theorem dX3_readButton_49 : decode cX3_readButton 49 = .ok (.aload_n 1, 1) := by decide +kernel
theorem dX3_readButton_50 : decode cX3_readButton 50 = .ok (.iload_n 2, 1) := by decide +kernel
theorem dX3_readButton_51 : decode cX3_readButton 51 = .ok (.iconst 2, 1) := by decide +kernel
theorem dX3_readButton_52 : decode cX3_readButton 52 = .ok (.iadd, 1) := by decide +kernel
theorem dX3_readButton_53 : decode cX3_readButton 53 = .ok (.invokevirtual 42, 3) := by decide +kernel
theorem dX3_readButton_56 : decode cX3_readButton 56 = .ok (.istore 4, 2) := by decide +kernel
theorem dX3_readButton_58 : decode cX3_readButton 58 = .ok (.iload 4, 2) := by decide +kernel
theorem dX3_readButton_60 : decode cX3_readButton 60 = .ok (.ifCond .lt 26, 3) := by decide +kernel
theorem dX3_readButton_63 : decode cX3_readButton 63 = .ok (.iload 4, 2) := by decide +kernel
theorem dX3_readButton_65 : decode cX3_readButton 65 = .ok (.iconst 3, 1) := by decide +kernel
theorem dX3_readButton_66 : decode cX3_readButton 66 = .ok (.if_icmp .gt 20, 3) := by decide +kernel
theorem dX3_readButton_69 : decode cX3_readButton 69 = .ok (.iload 4, 2) := by decide +kernel
theorem dX3_readButton_71 : decode cX3_readButton 71 = .ok (.iconst 3, 1) := by decide +kernel
theorem dX3_readButton_72 : decode cX3_readButton 72 = .ok (.if_icmp .ne 16, 3) := by decide +kernel
theorem dX3_readButton_75 : decode cX3_readButton 75 = .ok (.aload_n 0, 1) := by decide +kernel
theorem dX3_readButton_76 : decode cX3_readButton 76 = .ok (.getfield 12, 3) := by decide +kernel
theorem dX3_readButton_79 : decode cX3_readButton 79 = .ok (.getfield 18, 3) := by decide +kernel
theorem dX3_readButton_82 : decode cX3_readButton 82 = .ok (.iconst 2, 1) := by decide +kernel
theorem dX3_readButton_83 : decode cX3_readButton 83 = .ok (.if_icmp .ge 5, 3) := by decide +kernel
theorem dX3_readButton_86 : decode cX3_readButton 86 = .ok (.iconst 2, 1) := by decide +kernel
theorem dX3_readButton_87 : decode cX3_readButton 87 = .ok (.ireturn, 1) := by decide +kernel
theorem dX3_readButton_88 : decode cX3_readButton 88 = .ok (.aload_n 1, 1) := by decide +kernel
theorem dX3_readButton_89 : decode cX3_readButton 89 = .ok (.iload_n 2, 1) := by decide +kernel
theorem dX3_readButton_90 : decode cX3_readButton 90 = .ok (.iconst 3, 1) := by decide +kernel
theorem dX3_readButton_91 : decode cX3_readButton 91 = .ok (.iadd, 1) := by decide +kernel
theorem dX3_readButton_92 : decode cX3_readButton 92 = .ok (.invokevirtual 42, 3) := by decide +kernel
theorem dX3_readButton_95 : decode cX3_readButton 95 = .ok (.istore 5, 2) := by decide +kernel
theorem dX3_readButton_97 : decode cX3_readButton 97 = .ok (.iload 5, 2) := by decide +kernel
theorem dX3_readButton_99 : decode cX3_readButton 99 = .ok (.ifCond .lt 15, 3) := by decide +kernel
theorem dX3_readButton_102 : decode cX3_readButton 102 = .ok (.aload_n 0, 1) := by decide +kernel
theorem dX3_readButton_103 : decode cX3_readButton 103 = .ok (.iload_n 3, 1) := by decide +kernel
theorem dX3_readButton_104 : decode cX3_readButton 104 = .ok (.iload 4, 2) := by decide +kernel
theorem dX3_readButton_106 : decode cX3_readButton 106 = .ok (.iload 5, 2) := by decide +kernel
theorem dX3_readButton_108 : decode cX3_readButton 108 = .ok (.invokevirtual 49, 3) := by decide +kernel
theorem dX3_readButton_111 : decode cX3_readButton 111 = .ok (.ifCond .ne 5, 3) := by decide +kernel
theorem dX3_readButton_114 : decode cX3_readButton 114 = .ok (.iconst 3, 1) := by decide +kernel
theorem dX3_readButton_115 : decode cX3_readButton 115 = .ok (.ireturn, 1) := by decide +kernel
theorem dX3_readButton_116 : decode cX3_readButton 116 = .ok (.aload_n 0, 1) := by decide +kernel
theorem dX3_readButton_117 : decode cX3_readButton 117 = .ok (.getfield 12, 3) := by decide +kernel
theorem dX3_readButton_120 : decode cX3_readButton 120 = .ok (.iload_n 3, 1) := by decide +kernel
theorem dX3_readButton_121 : decode cX3_readButton 121 = .ok (.iload 4, 2) := by decide +kernel
theorem dX3_readButton_123 : decode cX3_readButton 123 = .ok (.iload 5, 2) := by decide +kernel
theorem dX3_readButton_125 : decode cX3_readButton 125 = .ok (.invokevirtual 53, 3) := by decide +kernel
theorem dX3_readButton_128 : decode cX3_readButton 128 = .ok (.iconst 4, 1) := by decide +kernel
theorem dX3_readButton_129 : decode cX3_readButton 129 = .ok (.ireturn, 1) := by decide +kernel
theorem dX3_mayBeExtra_0 : decode cX3_mayBeExtra 0 = .ok (.iload_n 2, 1) := by decide +kernel
theorem dX3_mayBeExtra_1 : decode cX3_mayBeExtra 1 = .ok (.lookupswitch 70 #[(1, 27), (3, 48)], 27) := by decide +kernel
theorem dX3_mayBeExtra_28 : decode cX3_mayBeExtra 28 = .ok (.iload_n 3, 1) := by decide +kernel
theorem dX3_mayBeExtra_29 : decode cX3_mayBeExtra 29 = .ok (.aload_n 0, 1) := by decide +kernel
theorem dX3_mayBeExtra_30 : decode cX3_mayBeExtra 30 = .ok (.getfield 12, 3) := by decide +kernel
theorem dX3_mayBeExtra_33 : decode cX3_mayBeExtra 33 = .ok (.getfield 57, 3) := by decide +kernel
theorem dX3_mayBeExtra_36 : decode cX3_mayBeExtra 36 = .ok (.iload_n 1, 1) := by decide +kernel
theorem dX3_mayBeExtra_37 : decode cX3_mayBeExtra 37 = .ok (.invokestatic 61, 3) := by decide +kernel
theorem dX3_mayBeExtra_40 : decode cX3_mayBeExtra 40 = .ok (.if_icmp .ge 7, 3) := by decide +kernel
theorem dX3_mayBeExtra_43 : decode cX3_mayBeExtra 43 = .ok (.iconst 1, 1) := by decide +kernel
theorem dX3_mayBeExtra_44 : decode cX3_mayBeExtra 44 = .ok (.goto 4, 3) := by decide +kernel
theorem dX3_mayBeExtra_47 : decode cX3_mayBeExtra 47 = .ok (.iconst 0, 1) := by decide +kernel
theorem dX3_mayBeExtra_48 : decode cX3_mayBeExtra 48 = .ok (.ireturn, 1) := by decide +kernel
theorem dX3_mayBeExtra_49 : decode cX3_mayBeExtra 49 = .ok (.iload_n 3, 1) := by decide +kernel
theorem dX3_mayBeExtra_50 : decode cX3_mayBeExtra 50 = .ok (.aload_n 0, 1) := by decide +kernel
theorem dX3_mayBeExtra_51 : decode cX3_mayBeExtra 51 = .ok (.getfield 12, 3) := by decide +kernel
theorem dX3_mayBeExtra_54 : decode cX3_mayBeExtra 54 = .ok (.getfield 18, 3) := by decide +kernel
theorem dX3_mayBeExtra_57 : decode cX3_mayBeExtra 57 = .ok (.if_icmp .ge 12, 3) := by decide +kernel
theorem dX3_mayBeExtra_60 : decode cX3_mayBeExtra 60 = .ok (.iload_n 3, 1) := by decide +kernel
theorem dX3_mayBeExtra_61 : decode cX3_mayBeExtra 61 = .ok (.iload_n 1, 1) := by decide +kernel
theorem dX3_mayBeExtra_62 : decode cX3_mayBeExtra 62 = .ok (.if_icmp .eq 7, 3) := by decide +kernel
theorem dX3_mayBeExtra_65 : decode cX3_mayBeExtra 65 = .ok (.iconst 1, 1) := by decide +kernel
theorem dX3_mayBeExtra_66 : decode cX3_mayBeExtra 66 = .ok (.goto 4, 3) := by decide +kernel
theorem dX3_mayBeExtra_69 : decode cX3_mayBeExtra 69 = .ok (.iconst 0, 1) := by decide +kernel
theorem dX3_mayBeExtra_70 : decode cX3_mayBeExtra 70 = .ok (.ireturn, 1) := by decide +kernel
theorem dX3_mayBeExtra_71 : decode cX3_mayBeExtra 71 = .ok (.iload_n 3, 1) := by decide +kernel
theorem dX3_mayBeExtra_72 : decode cX3_mayBeExtra 72 = .ok (.ifCond .ne 7, 3) := by decide +kernel
theorem dX3_mayBeExtra_75 : decode cX3_mayBeExtra 75 = .ok (.iconst 1, 1) := by decide +kernel
theorem dX3_mayBeExtra_76 : decode cX3_mayBeExtra 76 = .ok (.goto 4, 3) := by decide +kernel
theorem dX3_mayBeExtra_79 : decode cX3_mayBeExtra 79 = .ok (.iconst 0, 1) := by decide +kernel
theorem dX3_mayBeExtra_80 : decode cX3_mayBeExtra 80 = .ok (.ireturn, 1) := by decide +kernel
theorem dX4_init_0 : decode cX4_init 0 = .ok (.aload_n 0, 1) := by decide +kernel
theorem dX4_init_1 : decode cX4_init 1 = .ok (.invokespecial 3, 3) := by decide +kernel
theorem dX4_init_4 : decode cX4_init 4 = .ok (.aload_n 0, 1) := by decide +kernel
theorem dX4_init_5 : decode cX4_init 5 = .ok (.bipush 6, 2) := by decide +kernel
theorem dX4_init_7 : decode cX4_init 7 = .ok (.newarray .int, 2) := by decide +kernel
theorem dX4_init_9 : decode cX4_init 9 = .ok (.putfield 9, 3) := by decide +kernel
theorem dX4_init_12 : decode cX4_init 12 = .ok (.return_, 1) := by decide +kernel
theorem dX4_read_0 : decode cX4_read 0 = .ok (.aload_n 0, 1) := by decide +kernel
theorem dX4_read_1 : decode cX4_read 1 = .ok (.iload_n 1, 1) := by decide +kernel
theorem dX4_read_2 : decode cX4_read 2 = .ok (.putfield 15, 3) := by decide +kernel
theorem dX4_read_5 : decode cX4_read 5 = .ok (.iload_n 2, 1) := by decide +kernel
theorem dX4_read_6 : decode cX4_read 6 = .ok (.istore_n 3, 1) := by decide +kernel
theorem dX4_read_7 : decode cX4_read 7 = .ok (.iload_n 1, 1) := by decide +kernel
theorem dX4_read_8 : decode cX4_read 8 = .ok (.iconst 1, 1) := by decide +kernel
theorem dX4_read_9 : decode cX4_read 9 = .ok (.isub, 1) := by decide +kernel
theorem dX4_read_10 : decode cX4_read 10 = .ok (.istore 4, 2) := by decide +kernel
theorem dX4_read_12 : decode cX4_read 12 = .ok (.iload 4, 2) := by decide +kernel
theorem dX4_read_14 : decode cX4_read 14 = .ok (.ifCond .lt 27, 3) := by decide +kernel
theorem dX4_read_17 : decode cX4_read 17 = .ok (.aload_n 0, 1) := by decide +kernel
theorem dX4_read_18 : decode cX4_read 18 = .ok (.getfield 9, 3) := by decide +kernel
theorem dX4_read_21 : decode cX4_read 21 = .ok (.iload 4, 2) := by decide +kernel
theorem dX4_read_23 : decode cX4_read 23 = .ok (.iload_n 3, 1) := by decide +kernel
theorem dX4_read_24 : decode cX4_read 24 = .ok (.bipush 10, 2) := by decide +kernel
theorem dX4_read_26 : decode cX4_read 26 = .ok (.irem, 1) := by decide +kernel
theorem dX4_read_27 : decode cX4_read 27 = .ok (.invokestatic 19, 3) := by decide +kernel
theorem dX4_read_30 : decode cX4_read 30 = .ok (.iload_n 3, 1) := by decide +kernel
theorem dX4_read_31 : decode cX4_read 31 = .ok (.bipush 10, 2) := by decide +kernel
theorem dX4_read_33 : decode cX4_read 33 = .ok (.idiv, 1) := by decide +kernel
theorem dX4_read_34 : decode cX4_read 34 = .ok (.istore_n 3, 1) := by decide +kernel
theorem dX4_read_35 : decode cX4_read 35 = .ok (.iinc 4 (-1), 3) := by decide +kernel
theorem dX4_read_38 : decode cX4_read 38 = .ok (.goto (-26), 3) := by decide +kernel
theorem dX4_read_41 : decode cX4_read 41 = .ok (.return_, 1) := by decide +kernel
theorem dX4_buttonAt_0 : decode cX4_buttonAt 0 = .ok (.aload_n 0, 1) := by decide +kernel
theorem dX4_buttonAt_1 : decode cX4_buttonAt 1 = .ok (.getfield 9, 3) := by decide +kernel
theorem dX4_buttonAt_4 : decode cX4_buttonAt 4 = .ok (.iload_n 1, 1) := by decide +kernel
theorem dX4_buttonAt_5 : decode cX4_buttonAt 5 = .ok (.invokestatic 23, 3) := by decide +kernel
theorem dX4_buttonAt_8 : decode cX4_buttonAt 8 = .ok (.iconst 1, 1) := by decide +kernel
theorem dX4_buttonAt_9 : decode cX4_buttonAt 9 = .ok (.isub, 1) := by decide +kernel
theorem dX4_buttonAt_10 : decode cX4_buttonAt 10 = .ok (.ireturn, 1) := by decide +kernel
theorem dX4_isKnownTo_0 : decode cX4_isKnownTo 0 = .ok (.iconst 0, 1) := by decide +kernel
theorem dX4_isKnownTo_1 : decode cX4_isKnownTo 1 = .ok (.istore_n 2, 1) := by decide +kernel
theorem dX4_isKnownTo_2 : decode cX4_isKnownTo 2 = .ok (.iload_n 2, 1) := by decide +kernel
theorem dX4_isKnownTo_3 : decode cX4_isKnownTo 3 = .ok (.aload_n 0, 1) := by decide +kernel
theorem dX4_isKnownTo_4 : decode cX4_isKnownTo 4 = .ok (.getfield 15, 3) := by decide +kernel
theorem dX4_isKnownTo_7 : decode cX4_isKnownTo 7 = .ok (.if_icmp .ge 23, 3) := by decide +kernel
theorem dX4_isKnownTo_10 : decode cX4_isKnownTo 10 = .ok (.aload_n 1, 1) := by decide +kernel
theorem dX4_isKnownTo_11 : decode cX4_isKnownTo 11 = .ok (.aload_n 0, 1) := by decide +kernel
theorem dX4_isKnownTo_12 : decode cX4_isKnownTo 12 = .ok (.iload_n 2, 1) := by decide +kernel
theorem dX4_isKnownTo_13 : decode cX4_isKnownTo 13 = .ok (.invokevirtual 27, 3) := by decide +kernel
theorem dX4_isKnownTo_16 : decode cX4_isKnownTo 16 = .ok (.invokevirtual 31, 3) := by decide +kernel
theorem dX4_isKnownTo_19 : decode cX4_isKnownTo 19 = .ok (.ifCond .ne 5, 3) := by decide +kernel
theorem dX4_isKnownTo_22 : decode cX4_isKnownTo 22 = .ok (.iconst 0, 1) := by decide +kernel
theorem dX4_isKnownTo_23 : decode cX4_isKnownTo 23 = .ok (.ireturn, 1) := by decide +kernel
theorem dX4_isKnownTo_24 : decode cX4_isKnownTo 24 = .ok (.iinc 2 1, 3) := by decide +kernel
theorem dX4_isKnownTo_27 : decode cX4_isKnownTo 27 = .ok (.goto (-25), 3) := by decide +kernel
theorem dX4_isKnownTo_30 : decode cX4_isKnownTo 30 = .ok (.iconst 1, 1) := by decide +kernel
theorem dX4_isKnownTo_31 : decode cX4_isKnownTo 31 = .ok (.ireturn, 1) := by decide +kernel
theorem dX4_behind_0 : decode cX4_behind 0 = .ok (.iload_n 2, 1) := by decide +kernel
theorem dX4_behind_1 : decode cX4_behind 1 = .ok (.istore_n 3, 1) := by decide +kernel
theorem dX4_behind_2 : decode cX4_behind 2 = .ok (.iconst 0, 1) := by decide +kernel
theorem dX4_behind_3 : decode cX4_behind 3 = .ok (.istore 4, 2) := by decide +kernel
theorem dX4_behind_5 : decode cX4_behind 5 = .ok (.iload 4, 2) := by decide +kernel
theorem dX4_behind_7 : decode cX4_behind 7 = .ok (.aload_n 0, 1) := by decide +kernel
theorem dX4_behind_8 : decode cX4_behind 8 = .ok (.getfield 15, 3) := by decide +kernel
theorem dX4_behind_11 : decode cX4_behind 11 = .ok (.if_icmp .ge 21, 3) := by decide +kernel
theorem dX4_behind_14 : decode cX4_behind 14 = .ok (.aload_n 1, 1) := by decide +kernel
theorem dX4_behind_15 : decode cX4_behind 15 = .ok (.iload_n 3, 1) := by decide +kernel
theorem dX4_behind_16 : decode cX4_behind 16 = .ok (.aload_n 0, 1) := by decide +kernel
theorem dX4_behind_17 : decode cX4_behind 17 = .ok (.iload 4, 2) := by decide +kernel
theorem dX4_behind_19 : decode cX4_behind 19 = .ok (.invokevirtual 27, 3) := by decide +kernel
theorem dX4_behind_22 : decode cX4_behind 22 = .ok (.invokevirtual 37, 3) := by decide +kernel
theorem dX4_behind_25 : decode cX4_behind 25 = .ok (.istore_n 3, 1) := by decide +kernel
theorem dX4_behind_26 : decode cX4_behind 26 = .ok (.iinc 4 1, 3) := by decide +kernel
theorem dX4_behind_29 : decode cX4_behind 29 = .ok (.goto (-24), 3) := by decide +kernel
theorem dX4_behind_32 : decode cX4_behind 32 = .ok (.iload_n 3, 1) := by decide +kernel
theorem dX4_behind_33 : decode cX4_behind 33 = .ok (.ireturn, 1) := by decide +kernel
theorem dX4_bringsAll_0 : decode cX4_bringsAll 0 = .ok (.iconst 0, 1) := by decide +kernel
theorem dX4_bringsAll_1 : decode cX4_bringsAll 1 = .ok (.istore_n 3, 1) := by decide +kernel
theorem dX4_bringsAll_2 : decode cX4_bringsAll 2 = .ok (.iload_n 3, 1) := by decide +kernel
theorem dX4_bringsAll_3 : decode cX4_bringsAll 3 = .ok (.aload_n 1, 1) := by decide +kernel
theorem dX4_bringsAll_4 : decode cX4_bringsAll 4 = .ok (.getfield 41, 3) := by decide +kernel
theorem dX4_bringsAll_7 : decode cX4_bringsAll 7 = .ok (.if_icmp .ge 29, 3) := by decide +kernel
theorem dX4_bringsAll_10 : decode cX4_bringsAll 10 = .ok (.aload_n 1, 1) := by decide +kernel
theorem dX4_bringsAll_11 : decode cX4_bringsAll 11 = .ok (.iload_n 3, 1) := by decide +kernel
theorem dX4_bringsAll_12 : decode cX4_bringsAll 12 = .ok (.invokevirtual 44, 3) := by decide +kernel
theorem dX4_bringsAll_15 : decode cX4_bringsAll 15 = .ok (.ifCond .eq 15, 3) := by decide +kernel
theorem dX4_bringsAll_18 : decode cX4_bringsAll 18 = .ok (.aload_n 0, 1) := by decide +kernel
theorem dX4_bringsAll_19 : decode cX4_bringsAll 19 = .ok (.aload_n 1, 1) := by decide +kernel
theorem dX4_bringsAll_20 : decode cX4_bringsAll 20 = .ok (.iload_n 3, 1) := by decide +kernel
theorem dX4_bringsAll_21 : decode cX4_bringsAll 21 = .ok (.invokevirtual 47, 3) := by decide +kernel
theorem dX4_bringsAll_24 : decode cX4_bringsAll 24 = .ok (.iload_n 2, 1) := by decide +kernel
theorem dX4_bringsAll_25 : decode cX4_bringsAll 25 = .ok (.if_icmp .eq 5, 3) := by decide +kernel
theorem dX4_bringsAll_28 : decode cX4_bringsAll 28 = .ok (.iconst 0, 1) := by decide +kernel
theorem dX4_bringsAll_29 : decode cX4_bringsAll 29 = .ok (.ireturn, 1) := by decide +kernel
theorem dX4_bringsAll_30 : decode cX4_bringsAll 30 = .ok (.iinc 3 1, 3) := by decide +kernel
theorem dX4_bringsAll_33 : decode cX4_bringsAll 33 = .ok (.goto (-31), 3) := by decide +kernel
theorem dX4_bringsAll_36 : decode cX4_bringsAll 36 = .ok (.iconst 1, 1) := by decide +kernel
theorem dX4_bringsAll_37 : decode cX4_bringsAll 37 = .ok (.ireturn, 1) := by decide +kernel
theorem dX5_init_0 : decode cX5_init 0 = .ok (.aload_n 0, 1) := by decide +kernel
theorem dX5_init_1 : decode cX5_init 1 = .ok (.invokespecial 3, 3) := by decide +kernel
theorem dX5_init_4 : decode cX5_init 4 = .ok (.aload_n 0, 1) := by decide +kernel
theorem dX5_init_5 : decode cX5_init 5 = .ok (.bipush 6, 2) := by decide +kernel
theorem dX5_init_7 : decode cX5_init 7 = .ok (.newarray .int, 2) := by decide +kernel
theorem dX5_init_9 : decode cX5_init 9 = .ok (.putfield 9, 3) := by decide +kernel
theorem dX5_init_12 : decode cX5_init 12 = .ok (.aload_n 0, 1) := by decide +kernel
theorem dX5_init_13 : decode cX5_init 13 = .ok (.bipush 6, 2) := by decide +kernel
theorem dX5_init_15 : decode cX5_init 15 = .ok (.newarray .int, 2) := by decide +kernel
theorem dX5_init_17 : decode cX5_init 17 = .ok (.putfield 15, 3) := by decide +kernel
theorem dX5_init_20 : decode cX5_init 20 = .ok (.aload_n 0, 1) := by decide +kernel
theorem dX5_init_21 : decode cX5_init 21 = .ok (.bipush 6, 2) := by decide +kernel
theorem dX5_init_23 : decode cX5_init 23 = .ok (.newarray .int, 2) := by decide +kernel
theorem dX5_init_25 : decode cX5_init 25 = .ok (.putfield 18, 3) := by decide +kernel
theorem dX5_init_28 : decode cX5_init 28 = .ok (.aload_n 0, 1) := by decide +kernel
theorem dX5_init_29 : decode cX5_init 29 = .ok (.sipush 256, 3) := by decide +kernel
theorem dX5_init_32 : decode cX5_init 32 = .ok (.newarray .int, 2) := by decide +kernel
theorem dX5_init_34 : decode cX5_init 34 = .ok (.putfield 21, 3) := by decide +kernel
theorem dX5_init_37 : decode cX5_init 37 = .ok (.return_, 1) := by decide +kernel
theorem dX5_add_0 : decode cX5_add 0 = .ok (.aload_n 0, 1) := by decide +kernel
theorem dX5_add_1 : decode cX5_add 1 = .ok (.getfield 9, 3) := by decide +kernel
theorem dX5_add_4 : decode cX5_add 4 = .ok (.aload_n 0, 1) := by decide +kernel
theorem dX5_add_5 : decode cX5_add 5 = .ok (.getfield 24, 3) := by decide +kernel
theorem dX5_add_8 : decode cX5_add 8 = .ok (.iload_n 1, 1) := by decide +kernel
theorem dX5_add_9 : decode cX5_add 9 = .ok (.invokestatic 28, 3) := by decide +kernel
theorem dX5_add_12 : decode cX5_add 12 = .ok (.aload_n 0, 1) := by decide +kernel
theorem dX5_add_13 : decode cX5_add 13 = .ok (.getfield 15, 3) := by decide +kernel
theorem dX5_add_16 : decode cX5_add 16 = .ok (.aload_n 0, 1) := by decide +kernel
theorem dX5_add_17 : decode cX5_add 17 = .ok (.getfield 24, 3) := by decide +kernel
theorem dX5_add_20 : decode cX5_add 20 = .ok (.iload_n 2, 1) := by decide +kernel
theorem dX5_add_21 : decode cX5_add 21 = .ok (.invokestatic 28, 3) := by decide +kernel
theorem dX5_add_24 : decode cX5_add 24 = .ok (.aload_n 0, 1) := by decide +kernel
theorem dX5_add_25 : decode cX5_add 25 = .ok (.getfield 18, 3) := by decide +kernel
theorem dX5_add_28 : decode cX5_add 28 = .ok (.aload_n 0, 1) := by decide +kernel
theorem dX5_add_29 : decode cX5_add 29 = .ok (.getfield 24, 3) := by decide +kernel
theorem dX5_add_32 : decode cX5_add 32 = .ok (.iload_n 3, 1) := by decide +kernel
theorem dX5_add_33 : decode cX5_add 33 = .ok (.invokestatic 28, 3) := by decide +kernel
theorem dX5_add_36 : decode cX5_add 36 = .ok (.aload_n 0, 1) := by decide +kernel
theorem dX5_add_37 : decode cX5_add 37 = .ok (.dup, 1) := by decide +kernel
theorem dX5_add_38 : decode cX5_add 38 = .ok (.getfield 24, 3) := by decide +kernel
theorem dX5_add_41 : decode cX5_add 41 = .ok (.iconst 1, 1) := by decide +kernel
theorem dX5_add_42 : decode cX5_add 42 = .ok (.iadd, 1) := by decide +kernel
theorem dX5_add_43 : decode cX5_add 43 = .ok (.putfield 24, 3) := by decide +kernel
theorem dX5_add_46 : decode cX5_add 46 = .ok (.return_, 1) := by decide +kernel
theorem dX5_narrow_0 : decode cX5_narrow 0 = .ok (.aload_n 0, 1) := by decide +kernel
theorem dX5_narrow_1 : decode cX5_narrow 1 = .ok (.iconst 0, 1) := by decide +kernel
theorem dX5_narrow_2 : decode cX5_narrow 2 = .ok (.putfield 32, 3) := by decide +kernel
theorem dX5_narrow_5 : decode cX5_narrow 5 = .ok (.iconst 0, 1) := by decide +kernel
theorem dX5_narrow_6 : decode cX5_narrow 6 = .ok (.istore_n 3, 1) := by decide +kernel
theorem dX5_narrow_7 : decode cX5_narrow 7 = .ok (.iload_n 3, 1) := by decide +kernel
theorem dX5_narrow_8 : decode cX5_narrow 8 = .ok (.aload_n 1, 1) := by decide +kernel
theorem dX5_narrow_9 : decode cX5_narrow 9 = .ok (.getfield 35, 3) := by decide +kernel
theorem dX5_narrow_12 : decode cX5_narrow 12 = .ok (.if_icmp .ge 39, 3) := by decide +kernel
theorem dX5_narrow_15 : decode cX5_narrow 15 = .ok (.aload_n 1, 1) := by decide +kernel
theorem dX5_narrow_16 : decode cX5_narrow 16 = .ok (.iload_n 3, 1) := by decide +kernel
theorem dX5_narrow_17 : decode cX5_narrow 17 = .ok (.invokevirtual 39, 3) := by decide +kernel
theorem dX5_narrow_20 : decode cX5_narrow 20 = .ok (.ifCond .eq 25, 3) := by decide +kernel
theorem dX5_narrow_23 : decode cX5_narrow 23 = .ok (.aload_n 0, 1) := by decide +kernel
theorem dX5_narrow_24 : decode cX5_narrow 24 = .ok (.getfield 21, 3) := by decide +kernel
theorem dX5_narrow_27 : decode cX5_narrow 27 = .ok (.aload_n 0, 1) := by decide +kernel
theorem dX5_narrow_28 : decode cX5_narrow 28 = .ok (.getfield 32, 3) := by decide +kernel
theorem dX5_narrow_31 : decode cX5_narrow 31 = .ok (.iload_n 3, 1) := by decide +kernel
theorem dX5_narrow_32 : decode cX5_narrow 32 = .ok (.invokestatic 28, 3) := by decide +kernel
theorem dX5_narrow_35 : decode cX5_narrow 35 = .ok (.aload_n 0, 1) := by decide +kernel
theorem dX5_narrow_36 : decode cX5_narrow 36 = .ok (.dup, 1) := by decide +kernel
theorem dX5_narrow_37 : decode cX5_narrow 37 = .ok (.getfield 32, 3) := by decide +kernel
theorem dX5_narrow_40 : decode cX5_narrow 40 = .ok (.iconst 1, 1) := by decide +kernel
theorem dX5_narrow_41 : decode cX5_narrow 41 = .ok (.iadd, 1) := by decide +kernel
theorem dX5_narrow_42 : decode cX5_narrow 42 = .ok (.putfield 32, 3) := by decide +kernel
theorem dX5_narrow_45 : decode cX5_narrow 45 = .ok (.iinc 3 1, 3) := by decide +kernel
theorem dX5_narrow_48 : decode cX5_narrow 48 = .ok (.goto (-41), 3) := by decide +kernel
theorem dX5_narrow_51 : decode cX5_narrow 51 = .ok (.iconst 0, 1) := by decide +kernel
theorem dX5_narrow_52 : decode cX5_narrow 52 = .ok (.istore_n 3, 1) := by decide +kernel
theorem dX5_narrow_53 : decode cX5_narrow 53 = .ok (.iload_n 3, 1) := by decide +kernel
theorem dX5_narrow_54 : decode cX5_narrow 54 = .ok (.aload_n 0, 1) := by decide +kernel
theorem dX5_narrow_55 : decode cX5_narrow 55 = .ok (.getfield 24, 3) := by decide +kernel
theorem dX5_narrow_58 : decode cX5_narrow 58 = .ok (.if_icmp .ge 68, 3) := by decide +kernel
theorem dX5_narrow_61 : decode cX5_narrow 61 = .ok (.aload_n 2, 1) := by decide +kernel
theorem dX5_narrow_62 : decode cX5_narrow 62 = .ok (.aload_n 0, 1) := by decide +kernel
theorem dX5_narrow_63 : decode cX5_narrow 63 = .ok (.getfield 9, 3) := by decide +kernel
theorem dX5_narrow_66 : decode cX5_narrow 66 = .ok (.iload_n 3, 1) := by decide +kernel
theorem dX5_narrow_67 : decode cX5_narrow 67 = .ok (.invokestatic 43, 3) := by decide +kernel
theorem dX5_narrow_70 : decode cX5_narrow 70 = .ok (.aload_n 0, 1) := by decide +kernel
theorem dX5_narrow_71 : decode cX5_narrow 71 = .ok (.getfield 15, 3) := by decide +kernel
theorem dX5_narrow_74 : decode cX5_narrow 74 = .ok (.iload_n 3, 1) := by decide +kernel
theorem dX5_narrow_75 : decode cX5_narrow 75 = .ok (.invokestatic 43, 3) := by decide +kernel
theorem dX5_narrow_78 : decode cX5_narrow 78 = .ok (.invokevirtual 47, 3) := by decide +kernel
theorem dX5_narrow_81 : decode cX5_narrow 81 = .ok (.aload_n 2, 1) := by decide +kernel
theorem dX5_narrow_82 : decode cX5_narrow 82 = .ok (.aload_n 1, 1) := by decide +kernel
theorem dX5_narrow_83 : decode cX5_narrow 83 = .ok (.invokevirtual 53, 3) := by decide +kernel
theorem dX5_narrow_86 : decode cX5_narrow 86 = .ok (.ifCond .eq 34, 3) := by decide +kernel
theorem dX5_narrow_89 : decode cX5_narrow 89 = .ok (.aload_n 0, 1) := by decide +kernel
theorem dX5_narrow_90 : decode cX5_narrow 90 = .ok (.getfield 18, 3) := by decide +kernel
theorem dX5_narrow_93 : decode cX5_narrow 93 = .ok (.iload_n 3, 1) := by decide +kernel
theorem dX5_narrow_94 : decode cX5_narrow 94 = .ok (.invokestatic 43, 3) := by decide +kernel
theorem dX5_narrow_97 : decode cX5_narrow 97 = .ok (.iconst 1, 1) := by decide +kernel
theorem dX5_narrow_98 : decode cX5_narrow 98 = .ok (.aload_n 1, 1) := by decide +kernel
theorem dX5_narrow_99 : decode cX5_narrow 99 = .ok (.invokevirtual 57, 3) := by decide +kernel
theorem dX5_narrow_102 : decode cX5_narrow 102 = .ok (.ishl, 1) := by decide +kernel
theorem dX5_narrow_103 : decode cX5_narrow 103 = .ok (.if_icmp .ge 17, 3) := by decide +kernel
theorem dX5_narrow_106 : decode cX5_narrow 106 = .ok (.aload_n 0, 1) := by decide +kernel
theorem dX5_narrow_107 : decode cX5_narrow 107 = .ok (.aload_n 1, 1) := by decide +kernel
theorem dX5_narrow_108 : decode cX5_narrow 108 = .ok (.aload_n 2, 1) := by decide +kernel
theorem dX5_narrow_109 : decode cX5_narrow 109 = .ok (.aload_n 0, 1) := by decide +kernel
theorem dX5_narrow_110 : decode cX5_narrow 110 = .ok (.getfield 18, 3) := by decide +kernel
theorem dX5_narrow_113 : decode cX5_narrow 113 = .ok (.iload_n 3, 1) := by decide +kernel
theorem dX5_narrow_114 : decode cX5_narrow 114 = .ok (.invokestatic 43, 3) := by decide +kernel
theorem dX5_narrow_117 : decode cX5_narrow 117 = .ok (.invokevirtual 61, 3) := by decide +kernel
theorem dX5_narrow_120 : decode cX5_narrow 120 = .ok (.iinc 3 1, 3) := by decide +kernel
theorem dX5_narrow_123 : decode cX5_narrow 123 = .ok (.goto (-70), 3) := by decide +kernel
theorem dX5_narrow_126 : decode cX5_narrow 126 = .ok (.return_, 1) := by decide +kernel
theorem dX5_narrowBy_0 : decode cX5_narrowBy 0 = .ok (.iconst 0, 1) := by decide +kernel
theorem dX5_narrowBy_1 : decode cX5_narrowBy 1 = .ok (.istore 4, 2) := by decide +kernel
theorem dX5_narrowBy_3 : decode cX5_narrowBy 3 = .ok (.iconst 0, 1) := by decide +kernel
theorem dX5_narrowBy_4 : decode cX5_narrowBy 4 = .ok (.istore 5, 2) := by decide +kernel
theorem dX5_narrowBy_6 : decode cX5_narrowBy 6 = .ok (.iload 5, 2) := by decide +kernel
theorem dX5_narrowBy_8 : decode cX5_narrowBy 8 = .ok (.aload_n 0, 1) := by decide +kernel
theorem dX5_narrowBy_9 : decode cX5_narrowBy 9 = .ok (.getfield 32, 3) := by decide +kernel
theorem dX5_narrowBy_12 : decode cX5_narrowBy 12 = .ok (.if_icmp .ge 49, 3) := by decide +kernel
theorem dX5_narrowBy_15 : decode cX5_narrowBy 15 = .ok (.aload_n 0, 1) := by decide +kernel
theorem dX5_narrowBy_16 : decode cX5_narrowBy 16 = .ok (.getfield 21, 3) := by decide +kernel
theorem dX5_narrowBy_19 : decode cX5_narrowBy 19 = .ok (.iload 5, 2) := by decide +kernel
theorem dX5_narrowBy_21 : decode cX5_narrowBy 21 = .ok (.invokestatic 43, 3) := by decide +kernel
theorem dX5_narrowBy_24 : decode cX5_narrowBy 24 = .ok (.istore 6, 2) := by decide +kernel
theorem dX5_narrowBy_26 : decode cX5_narrowBy 26 = .ok (.aload_n 1, 1) := by decide +kernel
theorem dX5_narrowBy_27 : decode cX5_narrowBy 27 = .ok (.aload_n 2, 1) := by decide +kernel
theorem dX5_narrowBy_28 : decode cX5_narrowBy 28 = .ok (.aload_n 1, 1) := by decide +kernel
theorem dX5_narrowBy_29 : decode cX5_narrowBy 29 = .ok (.iload 6, 2) := by decide +kernel
theorem dX5_narrowBy_31 : decode cX5_narrowBy 31 = .ok (.invokevirtual 65, 3) := by decide +kernel
theorem dX5_narrowBy_34 : decode cX5_narrowBy 34 = .ok (.invokevirtual 69, 3) := by decide +kernel
theorem dX5_narrowBy_37 : decode cX5_narrowBy 37 = .ok (.iload_n 3, 1) := by decide +kernel
theorem dX5_narrowBy_38 : decode cX5_narrowBy 38 = .ok (.if_icmp .ne 17, 3) := by decide +kernel
theorem dX5_narrowBy_41 : decode cX5_narrowBy 41 = .ok (.aload_n 0, 1) := by decide +kernel
theorem dX5_narrowBy_42 : decode cX5_narrowBy 42 = .ok (.getfield 21, 3) := by decide +kernel
theorem dX5_narrowBy_45 : decode cX5_narrowBy 45 = .ok (.iload 4, 2) := by decide +kernel
theorem dX5_narrowBy_47 : decode cX5_narrowBy 47 = .ok (.iload 6, 2) := by decide +kernel
theorem dX5_narrowBy_49 : decode cX5_narrowBy 49 = .ok (.invokestatic 28, 3) := by decide +kernel
theorem dX5_narrowBy_52 : decode cX5_narrowBy 52 = .ok (.iinc 4 1, 3) := by decide +kernel
theorem dX5_narrowBy_55 : decode cX5_narrowBy 55 = .ok (.iinc 5 1, 3) := by decide +kernel
theorem dX5_narrowBy_58 : decode cX5_narrowBy 58 = .ok (.goto (-52), 3) := by decide +kernel
theorem dX5_narrowBy_61 : decode cX5_narrowBy 61 = .ok (.aload_n 0, 1) := by decide +kernel
theorem dX5_narrowBy_62 : decode cX5_narrowBy 62 = .ok (.iload 4, 2) := by decide +kernel
theorem dX5_narrowBy_64 : decode cX5_narrowBy 64 = .ok (.putfield 32, 3) := by decide +kernel
theorem dX5_narrowBy_67 : decode cX5_narrowBy 67 = .ok (.return_, 1) := by decide +kernel
theorem dX6_init_0 : decode cX6_init 0 = .ok (.aload_n 0, 1) := by decide +kernel
theorem dX6_init_1 : decode cX6_init 1 = .ok (.invokespecial 3, 3) := by decide +kernel
theorem dX6_init_4 : decode cX6_init 4 = .ok (.iload_n 1, 1) := by decide +kernel
theorem dX6_init_5 : decode cX6_init 5 = .ok (.iconst 0, 1) := by decide +kernel
theorem dX6_init_6 : decode cX6_init 6 = .ok (.invokestatic 9, 3) := by decide +kernel
theorem dX6_init_9 : decode cX6_init 9 = .ok (.istore_n 2, 1) := by decide +kernel
theorem dX6_init_10 : decode cX6_init 10 = .ok (.aload_n 0, 1) := by decide +kernel
theorem dX6_init_11 : decode cX6_init 11 = .ok (.iload_n 2, 1) := by decide +kernel
theorem dX6_init_12 : decode cX6_init 12 = .ok (.newarray .int, 2) := by decide +kernel
theorem dX6_init_14 : decode cX6_init 14 = .ok (.putfield 15, 3) := by decide +kernel
theorem dX6_init_17 : decode cX6_init 17 = .ok (.aload_n 0, 1) := by decide +kernel
theorem dX6_init_18 : decode cX6_init 18 = .ok (.iload_n 2, 1) := by decide +kernel
theorem dX6_init_19 : decode cX6_init 19 = .ok (.newarray .int, 2) := by decide +kernel
theorem dX6_init_21 : decode cX6_init 21 = .ok (.putfield 21, 3) := by decide +kernel
theorem dX6_init_24 : decode cX6_init 24 = .ok (.aload_n 0, 1) := by decide +kernel
theorem dX6_init_25 : decode cX6_init 25 = .ok (.iload_n 2, 1) := by decide +kernel
theorem dX6_init_26 : decode cX6_init 26 = .ok (.newarray .int, 2) := by decide +kernel
theorem dX6_init_28 : decode cX6_init 28 = .ok (.putfield 24, 3) := by decide +kernel
theorem dX6_init_31 : decode cX6_init 31 = .ok (.aload_n 0, 1) := by decide +kernel
theorem dX6_init_32 : decode cX6_init 32 = .ok (.getfield 24, 3) := by decide +kernel
theorem dX6_init_35 : decode cX6_init 35 = .ok (.iconst (-1), 1) := by decide +kernel
theorem dX6_init_36 : decode cX6_init 36 = .ok (.invokestatic 27, 3) := by decide +kernel
theorem dX6_init_39 : decode cX6_init 39 = .ok (.return_, 1) := by decide +kernel
theorem dX6_store_0 : decode cX6_store 0 = .ok (.aload_n 0, 1) := by decide +kernel
theorem dX6_store_1 : decode cX6_store 1 = .ok (.getfield 15, 3) := by decide +kernel
theorem dX6_store_4 : decode cX6_store 4 = .ok (.iload_n 1, 1) := by decide +kernel
theorem dX6_store_5 : decode cX6_store 5 = .ok (.aload_n 2, 1) := by decide +kernel
theorem dX6_store_6 : decode cX6_store 6 = .ok (.getfield 33, 3) := by decide +kernel
theorem dX6_store_9 : decode cX6_store 9 = .ok (.invokestatic 38, 3) := by decide +kernel
theorem dX6_store_12 : decode cX6_store 12 = .ok (.aload_n 0, 1) := by decide +kernel
theorem dX6_store_13 : decode cX6_store 13 = .ok (.getfield 21, 3) := by decide +kernel
theorem dX6_store_16 : decode cX6_store 16 = .ok (.iload_n 1, 1) := by decide +kernel
theorem dX6_store_17 : decode cX6_store 17 = .ok (.aload_n 2, 1) := by decide +kernel
theorem dX6_store_18 : decode cX6_store 18 = .ok (.getfield 42, 3) := by decide +kernel
theorem dX6_store_21 : decode cX6_store 21 = .ok (.invokestatic 38, 3) := by decide +kernel
theorem dX6_store_24 : decode cX6_store 24 = .ok (.aload_n 0, 1) := by decide +kernel
theorem dX6_store_25 : decode cX6_store 25 = .ok (.getfield 24, 3) := by decide +kernel
theorem dX6_store_28 : decode cX6_store 28 = .ok (.iload_n 1, 1) := by decide +kernel
theorem dX6_store_29 : decode cX6_store 29 = .ok (.aload_n 2, 1) := by decide +kernel
theorem dX6_store_30 : decode cX6_store 30 = .ok (.getfield 44, 3) := by decide +kernel
theorem dX6_store_33 : decode cX6_store 33 = .ok (.invokestatic 38, 3) := by decide +kernel
theorem dX6_store_36 : decode cX6_store 36 = .ok (.return_, 1) := by decide +kernel
theorem dX6_fetch_0 : decode cX6_fetch 0 = .ok (.aload_n 2, 1) := by decide +kernel
theorem dX6_fetch_1 : decode cX6_fetch 1 = .ok (.aload_n 0, 1) := by decide +kernel
theorem dX6_fetch_2 : decode cX6_fetch 2 = .ok (.getfield 15, 3) := by decide +kernel
theorem dX6_fetch_5 : decode cX6_fetch 5 = .ok (.iload_n 1, 1) := by decide +kernel
theorem dX6_fetch_6 : decode cX6_fetch 6 = .ok (.invokestatic 46, 3) := by decide +kernel
theorem dX6_fetch_9 : decode cX6_fetch 9 = .ok (.putfield 33, 3) := by decide +kernel
theorem dX6_fetch_12 : decode cX6_fetch 12 = .ok (.aload_n 2, 1) := by decide +kernel
theorem dX6_fetch_13 : decode cX6_fetch 13 = .ok (.aload_n 0, 1) := by decide +kernel
theorem dX6_fetch_14 : decode cX6_fetch 14 = .ok (.getfield 21, 3) := by decide +kernel
theorem dX6_fetch_17 : decode cX6_fetch 17 = .ok (.iload_n 1, 1) := by decide +kernel
theorem dX6_fetch_18 : decode cX6_fetch 18 = .ok (.invokestatic 46, 3) := by decide +kernel
theorem dX6_fetch_21 : decode cX6_fetch 21 = .ok (.putfield 42, 3) := by decide +kernel
theorem dX6_fetch_24 : decode cX6_fetch 24 = .ok (.aload_n 2, 1) := by decide +kernel
theorem dX6_fetch_25 : decode cX6_fetch 25 = .ok (.aload_n 0, 1) := by decide +kernel
theorem dX6_fetch_26 : decode cX6_fetch 26 = .ok (.getfield 24, 3) := by decide +kernel
theorem dX6_fetch_29 : decode cX6_fetch 29 = .ok (.iload_n 1, 1) := by decide +kernel
theorem dX6_fetch_30 : decode cX6_fetch 30 = .ok (.invokestatic 46, 3) := by decide +kernel
theorem dX6_fetch_33 : decode cX6_fetch 33 = .ok (.putfield 44, 3) := by decide +kernel
theorem dX6_fetch_36 : decode cX6_fetch 36 = .ok (.return_, 1) := by decide +kernel
theorem dX6_holds_0 : decode cX6_holds 0 = .ok (.aload_n 0, 1) := by decide +kernel
theorem dX6_holds_1 : decode cX6_holds 1 = .ok (.getfield 24, 3) := by decide +kernel
theorem dX6_holds_4 : decode cX6_holds 4 = .ok (.iload_n 1, 1) := by decide +kernel
theorem dX6_holds_5 : decode cX6_holds 5 = .ok (.invokestatic 46, 3) := by decide +kernel
theorem dX6_holds_8 : decode cX6_holds 8 = .ok (.iconst (-1), 1) := by decide +kernel
theorem dX6_holds_9 : decode cX6_holds 9 = .ok (.if_icmp .eq 7, 3) := by decide +kernel
theorem dX6_holds_12 : decode cX6_holds 12 = .ok (.iconst 1, 1) := by decide +kernel
theorem dX6_holds_13 : decode cX6_holds 13 = .ok (.goto 4, 3) := by decide +kernel
theorem dX6_holds_16 : decode cX6_holds 16 = .ok (.iconst 0, 1) := by decide +kernel
theorem dX6_holds_17 : decode cX6_holds 17 = .ok (.ireturn, 1) := by decide +kernel
theorem dX6_empty_0 : decode cX6_empty 0 = .ok (.aload_n 0, 1) := by decide +kernel
theorem dX6_empty_1 : decode cX6_empty 1 = .ok (.getfield 24, 3) := by decide +kernel
theorem dX6_empty_4 : decode cX6_empty 4 = .ok (.iconst (-1), 1) := by decide +kernel
theorem dX6_empty_5 : decode cX6_empty 5 = .ok (.invokestatic 27, 3) := by decide +kernel
theorem dX6_empty_8 : decode cX6_empty 8 = .ok (.return_, 1) := by decide +kernel
theorem dX6_forgetFirst_0 : decode cX6_forgetFirst 0 = .ok (.iconst 1, 1) := by decide +kernel
theorem dX6_forgetFirst_1 : decode cX6_forgetFirst 1 = .ok (.istore_n 1, 1) := by decide +kernel
theorem dX6_forgetFirst_2 : decode cX6_forgetFirst 2 = .ok (.iload_n 1, 1) := by decide +kernel
theorem dX6_forgetFirst_3 : decode cX6_forgetFirst 3 = .ok (.aload_n 0, 1) := by decide +kernel
theorem dX6_forgetFirst_4 : decode cX6_forgetFirst 4 = .ok (.getfield 24, 3) := by decide +kernel
theorem dX6_forgetFirst_7 : decode cX6_forgetFirst 7 = .ok (.arraylength, 1) := by decide +kernel
theorem dX6_forgetFirst_8 : decode cX6_forgetFirst 8 = .ok (.if_icmp .ge 63, 3) := by decide +kernel
theorem dX6_forgetFirst_11 : decode cX6_forgetFirst 11 = .ok (.aload_n 0, 1) := by decide +kernel
theorem dX6_forgetFirst_12 : decode cX6_forgetFirst 12 = .ok (.getfield 15, 3) := by decide +kernel
theorem dX6_forgetFirst_15 : decode cX6_forgetFirst 15 = .ok (.iload_n 1, 1) := by decide +kernel
theorem dX6_forgetFirst_16 : decode cX6_forgetFirst 16 = .ok (.iconst 1, 1) := by decide +kernel
theorem dX6_forgetFirst_17 : decode cX6_forgetFirst 17 = .ok (.isub, 1) := by decide +kernel
theorem dX6_forgetFirst_18 : decode cX6_forgetFirst 18 = .ok (.aload_n 0, 1) := by decide +kernel
theorem dX6_forgetFirst_19 : decode cX6_forgetFirst 19 = .ok (.getfield 15, 3) := by decide +kernel
theorem dX6_forgetFirst_22 : decode cX6_forgetFirst 22 = .ok (.iload_n 1, 1) := by decide +kernel
theorem dX6_forgetFirst_23 : decode cX6_forgetFirst 23 = .ok (.invokestatic 46, 3) := by decide +kernel
theorem dX6_forgetFirst_26 : decode cX6_forgetFirst 26 = .ok (.invokestatic 38, 3) := by decide +kernel
theorem dX6_forgetFirst_29 : decode cX6_forgetFirst 29 = .ok (.aload_n 0, 1) := by decide +kernel
theorem dX6_forgetFirst_30 : decode cX6_forgetFirst 30 = .ok (.getfield 21, 3) := by decide +kernel
theorem dX6_forgetFirst_33 : decode cX6_forgetFirst 33 = .ok (.iload_n 1, 1) := by decide +kernel
theorem dX6_forgetFirst_34 : decode cX6_forgetFirst 34 = .ok (.iconst 1, 1) := by decide +kernel
theorem dX6_forgetFirst_35 : decode cX6_forgetFirst 35 = .ok (.isub, 1) := by decide +kernel
theorem dX6_forgetFirst_36 : decode cX6_forgetFirst 36 = .ok (.aload_n 0, 1) := by decide +kernel
theorem dX6_forgetFirst_37 : decode cX6_forgetFirst 37 = .ok (.getfield 21, 3) := by decide +kernel
theorem dX6_forgetFirst_40 : decode cX6_forgetFirst 40 = .ok (.iload_n 1, 1) := by decide +kernel
theorem dX6_forgetFirst_41 : decode cX6_forgetFirst 41 = .ok (.invokestatic 46, 3) := by decide +kernel
theorem dX6_forgetFirst_44 : decode cX6_forgetFirst 44 = .ok (.invokestatic 38, 3) := by decide +kernel
theorem dX6_forgetFirst_47 : decode cX6_forgetFirst 47 = .ok (.aload_n 0, 1) := by decide +kernel
theorem dX6_forgetFirst_48 : decode cX6_forgetFirst 48 = .ok (.getfield 24, 3) := by decide +kernel
theorem dX6_forgetFirst_51 : decode cX6_forgetFirst 51 = .ok (.iload_n 1, 1) := by decide +kernel
theorem dX6_forgetFirst_52 : decode cX6_forgetFirst 52 = .ok (.iconst 1, 1) := by decide +kernel
theorem dX6_forgetFirst_53 : decode cX6_forgetFirst 53 = .ok (.isub, 1) := by decide +kernel
theorem dX6_forgetFirst_54 : decode cX6_forgetFirst 54 = .ok (.aload_n 0, 1) := by decide +kernel
theorem dX6_forgetFirst_55 : decode cX6_forgetFirst 55 = .ok (.getfield 24, 3) := by decide +kernel
theorem dX6_forgetFirst_58 : decode cX6_forgetFirst 58 = .ok (.iload_n 1, 1) := by decide +kernel
theorem dX6_forgetFirst_59 : decode cX6_forgetFirst 59 = .ok (.invokestatic 46, 3) := by decide +kernel
theorem dX6_forgetFirst_62 : decode cX6_forgetFirst 62 = .ok (.invokestatic 38, 3) := by decide +kernel
theorem dX6_forgetFirst_65 : decode cX6_forgetFirst 65 = .ok (.iinc 1 1, 3) := by decide +kernel
theorem dX6_forgetFirst_68 : decode cX6_forgetFirst 68 = .ok (.goto (-66), 3) := by decide +kernel
theorem dX6_forgetFirst_71 : decode cX6_forgetFirst 71 = .ok (.return_, 1) := by decide +kernel
theorem dX7_init_0 : decode cX7_init 0 = .ok (.aload_n 0, 1) := by decide +kernel
theorem dX7_init_1 : decode cX7_init 1 = .ok (.invokespecial 1, 3) := by decide +kernel
theorem dX7_init_4 : decode cX7_init 4 = .ok (.return_, 1) := by decide +kernel
theorem dX8_init_0 : decode cX8_init 0 = .ok (.aload_n 0, 1) := by decide +kernel
theorem dX8_init_1 : decode cX8_init 1 = .ok (.invokespecial 3, 3) := by decide +kernel
theorem dX8_init_4 : decode cX8_init 4 = .ok (.aload_n 0, 1) := by decide +kernel
theorem dX8_init_5 : decode cX8_init 5 = .ok (.bipush 44, 2) := by decide +kernel
theorem dX8_init_7 : decode cX8_init 7 = .ok (.newarray .int, 2) := by decide +kernel
theorem dX8_init_9 : decode cX8_init 9 = .ok (.putfield 9, 3) := by decide +kernel
theorem dX8_init_12 : decode cX8_init 12 = .ok (.return_, 1) := by decide +kernel
theorem dX8_size_0 : decode cX8_size 0 = .ok (.aload_n 0, 1) := by decide +kernel
theorem dX8_size_1 : decode cX8_size 1 = .ok (.getfield 15, 3) := by decide +kernel
theorem dX8_size_4 : decode cX8_size 4 = .ok (.ireturn, 1) := by decide +kernel
theorem dX8_isFull_0 : decode cX8_isFull 0 = .ok (.aload_n 0, 1) := by decide +kernel
theorem dX8_isFull_1 : decode cX8_isFull 1 = .ok (.getfield 15, 3) := by decide +kernel
theorem dX8_isFull_4 : decode cX8_isFull 4 = .ok (.bipush 44, 2) := by decide +kernel
theorem dX8_isFull_6 : decode cX8_isFull 6 = .ok (.if_icmp .lt 7, 3) := by decide +kernel
theorem dX8_isFull_9 : decode cX8_isFull 9 = .ok (.iconst 1, 1) := by decide +kernel
theorem dX8_isFull_10 : decode cX8_isFull 10 = .ok (.goto 4, 3) := by decide +kernel
theorem dX8_isFull_13 : decode cX8_isFull 13 = .ok (.iconst 0, 1) := by decide +kernel
theorem dX8_isFull_14 : decode cX8_isFull 14 = .ok (.ireturn, 1) := by decide +kernel
theorem dX8_append_0 : decode cX8_append 0 = .ok (.aload_n 0, 1) := by decide +kernel
theorem dX8_append_1 : decode cX8_append 1 = .ok (.getfield 9, 3) := by decide +kernel
theorem dX8_append_4 : decode cX8_append 4 = .ok (.aload_n 0, 1) := by decide +kernel
theorem dX8_append_5 : decode cX8_append 5 = .ok (.getfield 15, 3) := by decide +kernel
theorem dX8_append_8 : decode cX8_append 8 = .ok (.iload_n 1, 1) := by decide +kernel
theorem dX8_append_9 : decode cX8_append 9 = .ok (.invokestatic 19, 3) := by decide +kernel
theorem dX8_append_12 : decode cX8_append 12 = .ok (.aload_n 0, 1) := by decide +kernel
theorem dX8_append_13 : decode cX8_append 13 = .ok (.dup, 1) := by decide +kernel
theorem dX8_append_14 : decode cX8_append 14 = .ok (.getfield 15, 3) := by decide +kernel
theorem dX8_append_17 : decode cX8_append 17 = .ok (.iconst 1, 1) := by decide +kernel
theorem dX8_append_18 : decode cX8_append 18 = .ok (.iadd, 1) := by decide +kernel
theorem dX8_append_19 : decode cX8_append 19 = .ok (.putfield 15, 3) := by decide +kernel
theorem dX8_append_22 : decode cX8_append 22 = .ok (.return_, 1) := by decide +kernel
theorem dX8_empty_0 : decode cX8_empty 0 = .ok (.aload_n 0, 1) := by decide +kernel
theorem dX8_empty_1 : decode cX8_empty 1 = .ok (.iconst 0, 1) := by decide +kernel
theorem dX8_empty_2 : decode cX8_empty 2 = .ok (.putfield 15, 3) := by decide +kernel
theorem dX8_empty_5 : decode cX8_empty 5 = .ok (.return_, 1) := by decide +kernel
theorem dX8_letterAt_0 : decode cX8_letterAt 0 = .ok (.iload_n 1, 1) := by decide +kernel
theorem dX8_letterAt_1 : decode cX8_letterAt 1 = .ok (.ifCond .lt 22, 3) := by decide +kernel
theorem dX8_letterAt_4 : decode cX8_letterAt 4 = .ok (.iload_n 1, 1) := by decide +kernel
theorem dX8_letterAt_5 : decode cX8_letterAt 5 = .ok (.aload_n 0, 1) := by decide +kernel
theorem dX8_letterAt_6 : decode cX8_letterAt 6 = .ok (.getfield 15, 3) := by decide +kernel
theorem dX8_letterAt_9 : decode cX8_letterAt 9 = .ok (.if_icmp .ge 14, 3) := by decide +kernel
theorem dX8_letterAt_12 : decode cX8_letterAt 12 = .ok (.aload_n 0, 1) := by decide +kernel
theorem dX8_letterAt_13 : decode cX8_letterAt 13 = .ok (.getfield 9, 3) := by decide +kernel
theorem dX8_letterAt_16 : decode cX8_letterAt 16 = .ok (.iload_n 1, 1) := by decide +kernel
theorem dX8_letterAt_17 : decode cX8_letterAt 17 = .ok (.invokestatic 23, 3) := by decide +kernel
theorem dX8_letterAt_20 : decode cX8_letterAt 20 = .ok (.goto 4, 3) := by decide +kernel
theorem dX8_letterAt_23 : decode cX8_letterAt 23 = .ok (.iconst (-1), 1) := by decide +kernel
theorem dX8_letterAt_24 : decode cX8_letterAt 24 = .ok (.ireturn, 1) := by decide +kernel
theorem dX8_figureAt_0 : decode cX8_figureAt 0 = .ok (.aload_n 0, 1) := by decide +kernel
theorem dX8_figureAt_1 : decode cX8_figureAt 1 = .ok (.iload_n 1, 1) := by decide +kernel
theorem dX8_figureAt_2 : decode cX8_figureAt 2 = .ok (.invokevirtual 27, 3) := by decide +kernel
theorem dX8_figureAt_5 : decode cX8_figureAt 5 = .ok (.istore_n 2, 1) := by decide +kernel
theorem dX8_figureAt_6 : decode cX8_figureAt 6 = .ok (.iload_n 2, 1) := by decide +kernel
theorem dX8_figureAt_7 : decode cX8_figureAt 7 = .ok (.bipush 48, 2) := by decide +kernel
theorem dX8_figureAt_9 : decode cX8_figureAt 9 = .ok (.if_icmp .lt 16, 3) := by decide +kernel
theorem dX8_figureAt_12 : decode cX8_figureAt 12 = .ok (.iload_n 2, 1) := by decide +kernel
theorem dX8_figureAt_13 : decode cX8_figureAt 13 = .ok (.bipush 57, 2) := by decide +kernel
theorem dX8_figureAt_15 : decode cX8_figureAt 15 = .ok (.if_icmp .gt 10, 3) := by decide +kernel
theorem dX8_figureAt_18 : decode cX8_figureAt 18 = .ok (.iload_n 2, 1) := by decide +kernel
theorem dX8_figureAt_19 : decode cX8_figureAt 19 = .ok (.bipush 48, 2) := by decide +kernel
theorem dX8_figureAt_21 : decode cX8_figureAt 21 = .ok (.isub, 1) := by decide +kernel
theorem dX8_figureAt_22 : decode cX8_figureAt 22 = .ok (.goto 4, 3) := by decide +kernel
theorem dX8_figureAt_25 : decode cX8_figureAt 25 = .ok (.iconst (-1), 1) := by decide +kernel
theorem dX8_figureAt_26 : decode cX8_figureAt 26 = .ok (.ireturn, 1) := by decide +kernel
theorem dX9_init_0 : decode cX9_init 0 = .ok (.aload_n 0, 1) := by decide +kernel
theorem dX9_init_1 : decode cX9_init 1 = .ok (.invokespecial 1, 3) := by decide +kernel
theorem dX9_init_4 : decode cX9_init 4 = .ok (.aload_n 0, 1) := by decide +kernel
theorem dX9_init_5 : decode cX9_init 5 = .ok (.new 7, 3) := by decide +kernel
theorem dX9_init_8 : decode cX9_init 8 = .ok (.dup, 1) := by decide +kernel
theorem dX9_init_9 : decode cX9_init 9 = .ok (.invokespecial 9, 3) := by decide +kernel
theorem dX9_init_12 : decode cX9_init 12 = .ok (.putfield 10, 3) := by decide +kernel
theorem dX9_init_15 : decode cX9_init 15 = .ok (.aload_n 0, 1) := by decide +kernel
theorem dX9_init_16 : decode cX9_init 16 = .ok (.new 16, 3) := by decide +kernel
theorem dX9_init_19 : decode cX9_init 19 = .ok (.dup, 1) := by decide +kernel
theorem dX9_init_20 : decode cX9_init 20 = .ok (.invokespecial 18, 3) := by decide +kernel
theorem dX9_init_23 : decode cX9_init 23 = .ok (.putfield 19, 3) := by decide +kernel
theorem dX9_init_26 : decode cX9_init 26 = .ok (.aload_n 0, 1) := by decide +kernel
theorem dX9_init_27 : decode cX9_init 27 = .ok (.new 23, 3) := by decide +kernel
theorem dX9_init_30 : decode cX9_init 30 = .ok (.dup, 1) := by decide +kernel
theorem dX9_init_31 : decode cX9_init 31 = .ok (.invokespecial 25, 3) := by decide +kernel
theorem dX9_init_34 : decode cX9_init 34 = .ok (.putfield 26, 3) := by decide +kernel
theorem dX9_init_37 : decode cX9_init 37 = .ok (.aload_n 0, 1) := by decide +kernel
theorem dX9_init_38 : decode cX9_init 38 = .ok (.new 30, 3) := by decide +kernel
theorem dX9_init_41 : decode cX9_init 41 = .ok (.dup, 1) := by decide +kernel
theorem dX9_init_42 : decode cX9_init 42 = .ok (.invokespecial 32, 3) := by decide +kernel
theorem dX9_init_45 : decode cX9_init 45 = .ok (.putfield 33, 3) := by decide +kernel
theorem dX9_init_48 : decode cX9_init 48 = .ok (.aload_n 0, 1) := by decide +kernel
theorem dX9_init_49 : decode cX9_init 49 = .ok (.new 37, 3) := by decide +kernel
theorem dX9_init_52 : decode cX9_init 52 = .ok (.dup, 1) := by decide +kernel
theorem dX9_init_53 : decode cX9_init 53 = .ok (.invokespecial 39, 3) := by decide +kernel
theorem dX9_init_56 : decode cX9_init 56 = .ok (.putfield 40, 3) := by decide +kernel
theorem dX9_init_59 : decode cX9_init 59 = .ok (.aload_n 0, 1) := by decide +kernel
theorem dX9_init_60 : decode cX9_init 60 = .ok (.new 44, 3) := by decide +kernel
theorem dX9_init_63 : decode cX9_init 63 = .ok (.dup, 1) := by decide +kernel
theorem dX9_init_64 : decode cX9_init 64 = .ok (.invokespecial 46, 3) := by decide +kernel
theorem dX9_init_67 : decode cX9_init 67 = .ok (.putfield 47, 3) := by decide +kernel
theorem dX9_init_70 : decode cX9_init 70 = .ok (.aload_n 0, 1) := by decide +kernel
theorem dX9_init_71 : decode cX9_init 71 = .ok (.new 51, 3) := by decide +kernel
theorem dX9_init_74 : decode cX9_init 74 = .ok (.dup, 1) := by decide +kernel
theorem dX9_init_75 : decode cX9_init 75 = .ok (.bipush 14, 2) := by decide +kernel
theorem dX9_init_77 : decode cX9_init 77 = .ok (.invokespecial 53, 3) := by decide +kernel
theorem dX9_init_80 : decode cX9_init 80 = .ok (.putfield 56, 3) := by decide +kernel
theorem dX9_init_83 : decode cX9_init 83 = .ok (.aload_n 0, 1) := by decide +kernel
theorem dX9_init_84 : decode cX9_init 84 = .ok (.new 51, 3) := by decide +kernel
theorem dX9_init_87 : decode cX9_init 87 = .ok (.dup, 1) := by decide +kernel
theorem dX9_init_88 : decode cX9_init 88 = .ok (.iconst 2, 1) := by decide +kernel
theorem dX9_init_89 : decode cX9_init 89 = .ok (.invokespecial 53, 3) := by decide +kernel
theorem dX9_init_92 : decode cX9_init 92 = .ok (.putfield 60, 3) := by decide +kernel
theorem dX9_init_95 : decode cX9_init 95 = .ok (.aload_n 0, 1) := by decide +kernel
theorem dX9_init_96 : decode cX9_init 96 = .ok (.new 63, 3) := by decide +kernel
theorem dX9_init_99 : decode cX9_init 99 = .ok (.dup, 1) := by decide +kernel
theorem dX9_init_100 : decode cX9_init 100 = .ok (.invokespecial 65, 3) := by decide +kernel
theorem dX9_init_103 : decode cX9_init 103 = .ok (.putfield 66, 3) := by decide +kernel
theorem dX9_init_106 : decode cX9_init 106 = .ok (.aload_n 0, 1) := by decide +kernel
theorem dX9_init_107 : decode cX9_init 107 = .ok (.bipush 16, 2) := by decide +kernel
theorem dX9_init_109 : decode cX9_init 109 = .ok (.newarray .int, 2) := by decide +kernel
theorem dX9_init_111 : decode cX9_init 111 = .ok (.putfield 70, 3) := by decide +kernel
theorem dX9_init_114 : decode cX9_init 114 = .ok (.aload_n 0, 1) := by decide +kernel
theorem dX9_init_115 : decode cX9_init 115 = .ok (.bipush 7, 2) := by decide +kernel
theorem dX9_init_117 : decode cX9_init 117 = .ok (.newarray .int, 2) := by decide +kernel
theorem dX9_init_119 : decode cX9_init 119 = .ok (.putfield 74, 3) := by decide +kernel
theorem dX9_init_122 : decode cX9_init 122 = .ok (.aload_n 0, 1) := by decide +kernel
theorem dX9_init_123 : decode cX9_init 123 = .ok (.getfield 26, 3) := by decide +kernel
theorem dX9_init_126 : decode cX9_init 126 = .ok (.new 77, 3) := by decide +kernel
theorem dX9_init_129 : decode cX9_init 129 = .ok (.dup, 1) := by decide +kernel
theorem dX9_init_130 : decode cX9_init 130 = .ok (.invokespecial 79, 3) := by decide +kernel
theorem dX9_init_133 : decode cX9_init 133 = .ok (.invokevirtual 80, 3) := by decide +kernel
theorem dX9_init_136 : decode cX9_init 136 = .ok (.aload_n 0, 1) := by decide +kernel
theorem dX9_init_137 : decode cX9_init 137 = .ok (.getfield 33, 3) := by decide +kernel
theorem dX9_init_140 : decode cX9_init 140 = .ok (.aload_n 0, 1) := by decide +kernel
theorem dX9_init_141 : decode cX9_init 141 = .ok (.getfield 26, 3) := by decide +kernel
theorem dX9_init_144 : decode cX9_init 144 = .ok (.invokevirtual 84, 3) := by decide +kernel
theorem dX9_init_147 : decode cX9_init 147 = .ok (.return_, 1) := by decide +kernel
theorem dX9_write_0 : decode cX9_write 0 = .ok (.iload_n 1, 1) := by decide +kernel
theorem dX9_write_1 : decode cX9_write 1 = .ok (.ifCond .lt 10, 3) := by decide +kernel
theorem dX9_write_4 : decode cX9_write 4 = .ok (.iload_n 1, 1) := by decide +kernel
theorem dX9_write_5 : decode cX9_write 5 = .ok (.sipush 255, 3) := by decide +kernel
theorem dX9_write_8 : decode cX9_write 8 = .ok (.if_icmp .le 6, 3) := by decide +kernel
theorem dX9_write_11 : decode cX9_write 11 = .ok (.bipush (-2), 2) := by decide +kernel
theorem dX9_write_13 : decode cX9_write 13 = .ok (.ireturn, 1) := by decide +kernel
theorem dX9_write_14 : decode cX9_write 14 = .ok (.aload_n 0, 1) := by decide +kernel
theorem dX9_write_15 : decode cX9_write 15 = .ok (.getfield 10, 3) := by decide +kernel
theorem dX9_write_18 : decode cX9_write 18 = .ok (.invokevirtual 87, 3) := by decide +kernel
theorem dX9_write_21 : decode cX9_write 21 = .ok (.ifCond .eq 6, 3) := by decide +kernel
theorem dX9_write_24 : decode cX9_write 24 = .ok (.bipush (-4), 2) := by decide +kernel
theorem dX9_write_26 : decode cX9_write 26 = .ok (.ireturn, 1) := by decide +kernel
theorem dX9_write_27 : decode cX9_write 27 = .ok (.aload_n 0, 1) := by decide +kernel
theorem dX9_write_28 : decode cX9_write 28 = .ok (.getfield 10, 3) := by decide +kernel
theorem dX9_write_31 : decode cX9_write 31 = .ok (.iload_n 1, 1) := by decide +kernel
theorem dX9_write_32 : decode cX9_write 32 = .ok (.invokevirtual 91, 3) := by decide +kernel
theorem dX9_write_35 : decode cX9_write 35 = .ok (.aload_n 0, 1) := by decide +kernel
theorem dX9_write_36 : decode cX9_write 36 = .ok (.getfield 10, 3) := by decide +kernel
theorem dX9_write_39 : decode cX9_write 39 = .ok (.invokevirtual 94, 3) := by decide +kernel
theorem dX9_write_42 : decode cX9_write 42 = .ok (.ireturn, 1) := by decide +kernel
theorem dX9_wipe_0 : decode cX9_wipe 0 = .ok (.aload_n 0, 1) := by decide +kernel
theorem dX9_wipe_1 : decode cX9_wipe 1 = .ok (.getfield 10, 3) := by decide +kernel
theorem dX9_wipe_4 : decode cX9_wipe 4 = .ok (.invokevirtual 94, 3) := by decide +kernel
theorem dX9_wipe_7 : decode cX9_wipe 7 = .ok (.istore_n 1, 1) := by decide +kernel
theorem dX9_wipe_8 : decode cX9_wipe 8 = .ok (.aload_n 0, 1) := by decide +kernel
theorem dX9_wipe_9 : decode cX9_wipe 9 = .ok (.getfield 10, 3) := by decide +kernel
theorem dX9_wipe_12 : decode cX9_wipe 12 = .ok (.invokevirtual 98, 3) := by decide +kernel
theorem dX9_wipe_15 : decode cX9_wipe 15 = .ok (.iload_n 1, 1) := by decide +kernel
theorem dX9_wipe_16 : decode cX9_wipe 16 = .ok (.ireturn, 1) := by decide +kernel
theorem dX9_fault_0 : decode cX9_fault 0 = .ok (.aload_n 0, 1) := by decide +kernel
theorem dX9_fault_1 : decode cX9_fault 1 = .ok (.getfield 19, 3) := by decide +kernel
theorem dX9_fault_4 : decode cX9_fault 4 = .ok (.aload_n 0, 1) := by decide +kernel
theorem dX9_fault_5 : decode cX9_fault 5 = .ok (.getfield 10, 3) := by decide +kernel
theorem dX9_fault_8 : decode cX9_fault 8 = .ok (.invokevirtual 101, 3) := by decide +kernel
theorem dX9_fault_11 : decode cX9_fault 11 = .ok (.ireturn, 1) := by decide +kernel
theorem dX9_room_0 : decode cX9_room 0 = .ok (.aload_n 0, 1) := by decide +kernel
theorem dX9_room_1 : decode cX9_room 1 = .ok (.getfield 19, 3) := by decide +kernel
theorem dX9_room_4 : decode cX9_room 4 = .ok (.aload_n 0, 1) := by decide +kernel
theorem dX9_room_5 : decode cX9_room 5 = .ok (.getfield 10, 3) := by decide +kernel
theorem dX9_room_8 : decode cX9_room 8 = .ok (.invokevirtual 101, 3) := by decide +kernel
theorem dX9_room_11 : decode cX9_room 11 = .ok (.bipush (-9), 2) := by decide +kernel
theorem dX9_room_13 : decode cX9_room 13 = .ok (.if_icmp .eq 6, 3) := by decide +kernel
theorem dX9_room_16 : decode cX9_room 16 = .ok (.bipush (-3), 2) := by decide +kernel
theorem dX9_room_18 : decode cX9_room 18 = .ok (.ireturn, 1) := by decide +kernel
theorem dX9_room_19 : decode cX9_room 19 = .ok (.aload_n 0, 1) := by decide +kernel
theorem dX9_room_20 : decode cX9_room 20 = .ok (.getfield 26, 3) := by decide +kernel
theorem dX9_room_23 : decode cX9_room 23 = .ok (.aload_n 0, 1) := by decide +kernel
theorem dX9_room_24 : decode cX9_room 24 = .ok (.getfield 19, 3) := by decide +kernel
theorem dX9_room_27 : decode cX9_room 27 = .ok (.getfield 105, 3) := by decide +kernel
theorem dX9_room_30 : decode cX9_room 30 = .ok (.invokevirtual 80, 3) := by decide +kernel
theorem dX9_room_33 : decode cX9_room 33 = .ok (.aload_n 0, 1) := by decide +kernel
theorem dX9_room_34 : decode cX9_room 34 = .ok (.getfield 33, 3) := by decide +kernel
theorem dX9_room_37 : decode cX9_room 37 = .ok (.aload_n 0, 1) := by decide +kernel
theorem dX9_room_38 : decode cX9_room 38 = .ok (.getfield 26, 3) := by decide +kernel
theorem dX9_room_41 : decode cX9_room 41 = .ok (.invokevirtual 84, 3) := by decide +kernel
theorem dX9_room_44 : decode cX9_room 44 = .ok (.aload_n 0, 1) := by decide +kernel
theorem dX9_room_45 : decode cX9_room 45 = .ok (.getfield 47, 3) := by decide +kernel
theorem dX9_room_48 : decode cX9_room 48 = .ok (.aload_n 0, 1) := by decide +kernel
theorem dX9_room_49 : decode cX9_room 49 = .ok (.getfield 26, 3) := by decide +kernel
theorem dX9_room_52 : decode cX9_room 52 = .ok (.invokevirtual 109, 3) := by decide +kernel
theorem dX9_room_55 : decode cX9_room 55 = .ok (.putfield 112, 3) := by decide +kernel
theorem dX9_room_58 : decode cX9_room 58 = .ok (.aload_n 0, 1) := by decide +kernel
theorem dX9_room_59 : decode cX9_room 59 = .ok (.getfield 47, 3) := by decide +kernel
theorem dX9_room_62 : decode cX9_room 62 = .ok (.aload_n 0, 1) := by decide +kernel
theorem dX9_room_63 : decode cX9_room 63 = .ok (.getfield 47, 3) := by decide +kernel
theorem dX9_room_66 : decode cX9_room 66 = .ok (.getfield 112, 3) := by decide +kernel
theorem dX9_room_69 : decode cX9_room 69 = .ok (.putfield 116, 3) := by decide +kernel
theorem dX9_room_72 : decode cX9_room 72 = .ok (.aload_n 0, 1) := by decide +kernel
theorem dX9_room_73 : decode cX9_room 73 = .ok (.getfield 47, 3) := by decide +kernel
theorem dX9_room_76 : decode cX9_room 76 = .ok (.iconst 0, 1) := by decide +kernel
theorem dX9_room_77 : decode cX9_room 77 = .ok (.putfield 119, 3) := by decide +kernel
theorem dX9_room_80 : decode cX9_room 80 = .ok (.aload_n 0, 1) := by decide +kernel
theorem dX9_room_81 : decode cX9_room 81 = .ok (.iconst 0, 1) := by decide +kernel
theorem dX9_room_82 : decode cX9_room 82 = .ok (.putfield 121, 3) := by decide +kernel
theorem dX9_room_85 : decode cX9_room 85 = .ok (.aload_n 0, 1) := by decide +kernel
theorem dX9_room_86 : decode cX9_room 86 = .ok (.getfield 60, 3) := by decide +kernel
theorem dX9_room_89 : decode cX9_room 89 = .ok (.invokevirtual 124, 3) := by decide +kernel
theorem dX9_room_92 : decode cX9_room 92 = .ok (.bipush 10, 2) := by decide +kernel
theorem dX9_room_94 : decode cX9_room 94 = .ok (.aload_n 0, 1) := by decide +kernel
theorem dX9_room_95 : decode cX9_room 95 = .ok (.getfield 26, 3) := by decide +kernel
theorem dX9_room_98 : decode cX9_room 98 = .ok (.invokevirtual 125, 3) := by decide +kernel
theorem dX9_room_101 : decode cX9_room 101 = .ok (.imul, 1) := by decide +kernel
theorem dX9_room_102 : decode cX9_room 102 = .ok (.aload_n 0, 1) := by decide +kernel
theorem dX9_room_103 : decode cX9_room 103 = .ok (.getfield 26, 3) := by decide +kernel
theorem dX9_room_106 : decode cX9_room 106 = .ok (.invokevirtual 128, 3) := by decide +kernel
theorem dX9_room_109 : decode cX9_room 109 = .ok (.iadd, 1) := by decide +kernel
theorem dX9_room_110 : decode cX9_room 110 = .ok (.ireturn, 1) := by decide +kernel
theorem dX9_thing_0 : decode cX9_thing 0 = .ok (.aload_n 0, 1) := by decide +kernel
theorem dX9_thing_1 : decode cX9_thing 1 = .ok (.getfield 26, 3) := by decide +kernel
theorem dX9_thing_4 : decode cX9_thing 4 = .ok (.iload_n 1, 1) := by decide +kernel
theorem dX9_thing_5 : decode cX9_thing 5 = .ok (.invokevirtual 131, 3) := by decide +kernel
theorem dX9_thing_8 : decode cX9_thing 8 = .ok (.ifCond .ne 5, 3) := by decide +kernel
theorem dX9_thing_11 : decode cX9_thing 11 = .ok (.iconst (-1), 1) := by decide +kernel
theorem dX9_thing_12 : decode cX9_thing 12 = .ok (.ireturn, 1) := by decide +kernel
theorem dX9_thing_13 : decode cX9_thing 13 = .ok (.iload_n 2, 1) := by decide +kernel
theorem dX9_thing_14 : decode cX9_thing 14 = .ok (.tableswitch 67 0 2 #[26, 35, 51], 26) := by decide +kernel
theorem dX9_thing_40 : decode cX9_thing 40 = .ok (.aload_n 0, 1) := by decide +kernel
theorem dX9_thing_41 : decode cX9_thing 41 = .ok (.getfield 26, 3) := by decide +kernel
theorem dX9_thing_44 : decode cX9_thing 44 = .ok (.iload_n 1, 1) := by decide +kernel
theorem dX9_thing_45 : decode cX9_thing 45 = .ok (.invokevirtual 135, 3) := by decide +kernel
theorem dX9_thing_48 : decode cX9_thing 48 = .ok (.ireturn, 1) := by decide +kernel
theorem dX9_thing_49 : decode cX9_thing 49 = .ok (.aload_n 0, 1) := by decide +kernel
theorem dX9_thing_50 : decode cX9_thing 50 = .ok (.getfield 26, 3) := by decide +kernel
theorem dX9_thing_53 : decode cX9_thing 53 = .ok (.aload_n 0, 1) := by decide +kernel
theorem dX9_thing_54 : decode cX9_thing 54 = .ok (.getfield 47, 3) := by decide +kernel
theorem dX9_thing_57 : decode cX9_thing 57 = .ok (.getfield 112, 3) := by decide +kernel
theorem dX9_thing_60 : decode cX9_thing 60 = .ok (.iload_n 1, 1) := by decide +kernel
theorem dX9_thing_61 : decode cX9_thing 61 = .ok (.invokevirtual 139, 3) := by decide +kernel
theorem dX9_thing_64 : decode cX9_thing 64 = .ok (.ireturn, 1) := by decide +kernel
theorem dX9_thing_65 : decode cX9_thing 65 = .ok (.aload_n 0, 1) := by decide +kernel
theorem dX9_thing_66 : decode cX9_thing 66 = .ok (.getfield 26, 3) := by decide +kernel
theorem dX9_thing_69 : decode cX9_thing 69 = .ok (.aload_n 0, 1) := by decide +kernel
theorem dX9_thing_70 : decode cX9_thing 70 = .ok (.getfield 47, 3) := by decide +kernel
theorem dX9_thing_73 : decode cX9_thing 73 = .ok (.getfield 116, 3) := by decide +kernel
theorem dX9_thing_76 : decode cX9_thing 76 = .ok (.iload_n 1, 1) := by decide +kernel
theorem dX9_thing_77 : decode cX9_thing 77 = .ok (.invokevirtual 139, 3) := by decide +kernel
theorem dX9_thing_80 : decode cX9_thing 80 = .ok (.ireturn, 1) := by decide +kernel
theorem dX9_thing_81 : decode cX9_thing 81 = .ok (.bipush (-2), 2) := by decide +kernel
theorem dX9_thing_83 : decode cX9_thing 83 = .ok (.ireturn, 1) := by decide +kernel
theorem dX9_button_0 : decode cX9_button 0 = .ok (.aload_n 0, 1) := by decide +kernel
theorem dX9_button_1 : decode cX9_button 1 = .ok (.getfield 26, 3) := by decide +kernel
theorem dX9_button_4 : decode cX9_button 4 = .ok (.iload_n 1, 1) := by decide +kernel
theorem dX9_button_5 : decode cX9_button 5 = .ok (.invokevirtual 143, 3) := by decide +kernel
theorem dX9_button_8 : decode cX9_button 8 = .ok (.ifCond .ne 5, 3) := by decide +kernel
theorem dX9_button_11 : decode cX9_button 11 = .ok (.iconst (-1), 1) := by decide +kernel
theorem dX9_button_12 : decode cX9_button 12 = .ok (.ireturn, 1) := by decide +kernel
theorem dX9_button_13 : decode cX9_button 13 = .ok (.iload_n 2, 1) := by decide +kernel
theorem dX9_button_14 : decode cX9_button 14 = .ok (.tableswitch 71 0 2 #[26, 41, 56], 26) := by decide +kernel
theorem dX9_button_40 : decode cX9_button 40 = .ok (.aload_n 0, 1) := by decide +kernel
theorem dX9_button_41 : decode cX9_button 41 = .ok (.getfield 26, 3) := by decide +kernel
theorem dX9_button_44 : decode cX9_button 44 = .ok (.getfield 146, 3) := by decide +kernel
theorem dX9_button_47 : decode cX9_button 47 = .ok (.getfield 149, 3) := by decide +kernel
theorem dX9_button_50 : decode cX9_button 50 = .ok (.iload_n 1, 1) := by decide +kernel
theorem dX9_button_51 : decode cX9_button 51 = .ok (.invokestatic 152, 3) := by decide +kernel
theorem dX9_button_54 : decode cX9_button 54 = .ok (.ireturn, 1) := by decide +kernel
theorem dX9_button_55 : decode cX9_button 55 = .ok (.aload_n 0, 1) := by decide +kernel
theorem dX9_button_56 : decode cX9_button 56 = .ok (.getfield 26, 3) := by decide +kernel
theorem dX9_button_59 : decode cX9_button 59 = .ok (.getfield 146, 3) := by decide +kernel
theorem dX9_button_62 : decode cX9_button 62 = .ok (.getfield 156, 3) := by decide +kernel
theorem dX9_button_65 : decode cX9_button 65 = .ok (.iload_n 1, 1) := by decide +kernel
theorem dX9_button_66 : decode cX9_button 66 = .ok (.invokestatic 152, 3) := by decide +kernel
theorem dX9_button_69 : decode cX9_button 69 = .ok (.ireturn, 1) := by decide +kernel
theorem dX9_button_70 : decode cX9_button 70 = .ok (.aload_n 0, 1) := by decide +kernel
theorem dX9_button_71 : decode cX9_button 71 = .ok (.getfield 26, 3) := by decide +kernel
theorem dX9_button_74 : decode cX9_button 74 = .ok (.getfield 146, 3) := by decide +kernel
theorem dX9_button_77 : decode cX9_button 77 = .ok (.getfield 159, 3) := by decide +kernel
theorem dX9_button_80 : decode cX9_button 80 = .ok (.iload_n 1, 1) := by decide +kernel
theorem dX9_button_81 : decode cX9_button 81 = .ok (.invokestatic 152, 3) := by decide +kernel
theorem dX9_button_84 : decode cX9_button 84 = .ok (.ireturn, 1) := by decide +kernel
theorem dX9_button_85 : decode cX9_button 85 = .ok (.bipush (-2), 2) := by decide +kernel
theorem dX9_button_87 : decode cX9_button 87 = .ok (.ireturn, 1) := by decide +kernel
theorem dX9_press_0 : decode cX9_press 0 = .ok (.aload_n 0, 1) := by decide +kernel
theorem dX9_press_1 : decode cX9_press 1 = .ok (.getfield 26, 3) := by decide +kernel
theorem dX9_press_4 : decode cX9_press 4 = .ok (.iload_n 1, 1) := by decide +kernel
theorem dX9_press_5 : decode cX9_press 5 = .ok (.invokevirtual 143, 3) := by decide +kernel
theorem dX9_press_8 : decode cX9_press 8 = .ok (.ifCond .ne 5, 3) := by decide +kernel
theorem dX9_press_11 : decode cX9_press 11 = .ok (.iconst (-1), 1) := by decide +kernel
theorem dX9_press_12 : decode cX9_press 12 = .ok (.ireturn, 1) := by decide +kernel
theorem dX9_press_13 : decode cX9_press 13 = .ok (.aload_n 0, 1) := by decide +kernel
theorem dX9_press_14 : decode cX9_press 14 = .ok (.invokevirtual 162, 3) := by decide +kernel
theorem dX9_press_17 : decode cX9_press 17 = .ok (.aload_n 0, 1) := by decide +kernel
theorem dX9_press_18 : decode cX9_press 18 = .ok (.getfield 47, 3) := by decide +kernel
theorem dX9_press_21 : decode cX9_press 21 = .ok (.aload_n 0, 1) := by decide +kernel
theorem dX9_press_22 : decode cX9_press 22 = .ok (.getfield 26, 3) := by decide +kernel
theorem dX9_press_25 : decode cX9_press 25 = .ok (.aload_n 0, 1) := by decide +kernel
theorem dX9_press_26 : decode cX9_press 26 = .ok (.getfield 47, 3) := by decide +kernel
theorem dX9_press_29 : decode cX9_press 29 = .ok (.getfield 112, 3) := by decide +kernel
theorem dX9_press_32 : decode cX9_press 32 = .ok (.iload_n 1, 1) := by decide +kernel
theorem dX9_press_33 : decode cX9_press 33 = .ok (.invokevirtual 165, 3) := by decide +kernel
theorem dX9_press_36 : decode cX9_press 36 = .ok (.putfield 112, 3) := by decide +kernel
theorem dX9_press_39 : decode cX9_press 39 = .ok (.aload_n 0, 1) := by decide +kernel
theorem dX9_press_40 : decode cX9_press 40 = .ok (.getfield 47, 3) := by decide +kernel
theorem dX9_press_43 : decode cX9_press 43 = .ok (.aload_n 0, 1) := by decide +kernel
theorem dX9_press_44 : decode cX9_press 44 = .ok (.getfield 26, 3) := by decide +kernel
theorem dX9_press_47 : decode cX9_press 47 = .ok (.aload_n 0, 1) := by decide +kernel
theorem dX9_press_48 : decode cX9_press 48 = .ok (.getfield 47, 3) := by decide +kernel
theorem dX9_press_51 : decode cX9_press 51 = .ok (.getfield 116, 3) := by decide +kernel
theorem dX9_press_54 : decode cX9_press 54 = .ok (.iload_n 1, 1) := by decide +kernel
theorem dX9_press_55 : decode cX9_press 55 = .ok (.invokevirtual 165, 3) := by decide +kernel
theorem dX9_press_58 : decode cX9_press 58 = .ok (.putfield 116, 3) := by decide +kernel
theorem dX9_press_61 : decode cX9_press 61 = .ok (.aload_n 0, 1) := by decide +kernel
theorem dX9_press_62 : decode cX9_press 62 = .ok (.getfield 47, 3) := by decide +kernel
theorem dX9_press_65 : decode cX9_press 65 = .ok (.dup, 1) := by decide +kernel
theorem dX9_press_66 : decode cX9_press 66 = .ok (.getfield 119, 3) := by decide +kernel
theorem dX9_press_69 : decode cX9_press 69 = .ok (.iconst 1, 1) := by decide +kernel
theorem dX9_press_70 : decode cX9_press 70 = .ok (.iadd, 1) := by decide +kernel
theorem dX9_press_71 : decode cX9_press 71 = .ok (.putfield 119, 3) := by decide +kernel
theorem dX9_press_74 : decode cX9_press 74 = .ok (.aload_n 0, 1) := by decide +kernel
theorem dX9_press_75 : decode cX9_press 75 = .ok (.getfield 26, 3) := by decide +kernel
theorem dX9_press_78 : decode cX9_press 78 = .ok (.aload_n 0, 1) := by decide +kernel
theorem dX9_press_79 : decode cX9_press 79 = .ok (.getfield 47, 3) := by decide +kernel
theorem dX9_press_82 : decode cX9_press 82 = .ok (.getfield 112, 3) := by decide +kernel
theorem dX9_press_85 : decode cX9_press 85 = .ok (.invokevirtual 168, 3) := by decide +kernel
theorem dX9_press_88 : decode cX9_press 88 = .ok (.ireturn, 1) := by decide +kernel
theorem dX9_miss_0 : decode cX9_miss 0 = .ok (.aload_n 0, 1) := by decide +kernel
theorem dX9_miss_1 : decode cX9_miss 1 = .ok (.getfield 26, 3) := by decide +kernel
theorem dX9_miss_4 : decode cX9_miss 4 = .ok (.iload_n 1, 1) := by decide +kernel
theorem dX9_miss_5 : decode cX9_miss 5 = .ok (.invokevirtual 143, 3) := by decide +kernel
theorem dX9_miss_8 : decode cX9_miss 8 = .ok (.ifCond .ne 5, 3) := by decide +kernel
theorem dX9_miss_11 : decode cX9_miss 11 = .ok (.iconst (-1), 1) := by decide +kernel
theorem dX9_miss_12 : decode cX9_miss 12 = .ok (.ireturn, 1) := by decide +kernel
theorem dX9_miss_13 : decode cX9_miss 13 = .ok (.aload_n 0, 1) := by decide +kernel
theorem dX9_miss_14 : decode cX9_miss 14 = .ok (.invokevirtual 162, 3) := by decide +kernel
theorem dX9_miss_17 : decode cX9_miss 17 = .ok (.aload_n 0, 1) := by decide +kernel
theorem dX9_miss_18 : decode cX9_miss 18 = .ok (.getfield 47, 3) := by decide +kernel
theorem dX9_miss_21 : decode cX9_miss 21 = .ok (.aload_n 0, 1) := by decide +kernel
theorem dX9_miss_22 : decode cX9_miss 22 = .ok (.getfield 26, 3) := by decide +kernel
theorem dX9_miss_25 : decode cX9_miss 25 = .ok (.aload_n 0, 1) := by decide +kernel
theorem dX9_miss_26 : decode cX9_miss 26 = .ok (.getfield 47, 3) := by decide +kernel
theorem dX9_miss_29 : decode cX9_miss 29 = .ok (.getfield 116, 3) := by decide +kernel
theorem dX9_miss_32 : decode cX9_miss 32 = .ok (.iload_n 1, 1) := by decide +kernel
theorem dX9_miss_33 : decode cX9_miss 33 = .ok (.invokevirtual 165, 3) := by decide +kernel
theorem dX9_miss_36 : decode cX9_miss 36 = .ok (.putfield 116, 3) := by decide +kernel
theorem dX9_miss_39 : decode cX9_miss 39 = .ok (.aload_n 0, 1) := by decide +kernel
theorem dX9_miss_40 : decode cX9_miss 40 = .ok (.getfield 47, 3) := by decide +kernel
theorem dX9_miss_43 : decode cX9_miss 43 = .ok (.dup, 1) := by decide +kernel
theorem dX9_miss_44 : decode cX9_miss 44 = .ok (.getfield 119, 3) := by decide +kernel
theorem dX9_miss_47 : decode cX9_miss 47 = .ok (.iconst 1, 1) := by decide +kernel
theorem dX9_miss_48 : decode cX9_miss 48 = .ok (.iadd, 1) := by decide +kernel
theorem dX9_miss_49 : decode cX9_miss 49 = .ok (.putfield 119, 3) := by decide +kernel
theorem dX9_miss_52 : decode cX9_miss 52 = .ok (.aload_n 0, 1) := by decide +kernel
theorem dX9_miss_53 : decode cX9_miss 53 = .ok (.getfield 26, 3) := by decide +kernel
theorem dX9_miss_56 : decode cX9_miss 56 = .ok (.aload_n 0, 1) := by decide +kernel
theorem dX9_miss_57 : decode cX9_miss 57 = .ok (.getfield 47, 3) := by decide +kernel
theorem dX9_miss_60 : decode cX9_miss 60 = .ok (.getfield 116, 3) := by decide +kernel
theorem dX9_miss_63 : decode cX9_miss 63 = .ok (.invokevirtual 168, 3) := by decide +kernel
theorem dX9_miss_66 : decode cX9_miss 66 = .ok (.ireturn, 1) := by decide +kernel
theorem dX9_step_0 : decode cX9_step 0 = .ok (.aload_n 0, 1) := by decide +kernel
theorem dX9_step_1 : decode cX9_step 1 = .ok (.getfield 26, 3) := by decide +kernel
theorem dX9_step_4 : decode cX9_step 4 = .ok (.iload_n 1, 1) := by decide +kernel
theorem dX9_step_5 : decode cX9_step 5 = .ok (.invokevirtual 131, 3) := by decide +kernel
theorem dX9_step_8 : decode cX9_step 8 = .ok (.ifCond .ne 5, 3) := by decide +kernel
theorem dX9_step_11 : decode cX9_step 11 = .ok (.iconst (-1), 1) := by decide +kernel
theorem dX9_step_12 : decode cX9_step 12 = .ok (.ireturn, 1) := by decide +kernel
theorem dX9_step_13 : decode cX9_step 13 = .ok (.aload_n 0, 1) := by decide +kernel
theorem dX9_step_14 : decode cX9_step 14 = .ok (.invokevirtual 162, 3) := by decide +kernel
theorem dX9_step_17 : decode cX9_step 17 = .ok (.aload_n 0, 1) := by decide +kernel
theorem dX9_step_18 : decode cX9_step 18 = .ok (.getfield 47, 3) := by decide +kernel
theorem dX9_step_21 : decode cX9_step 21 = .ok (.aload_n 0, 1) := by decide +kernel
theorem dX9_step_22 : decode cX9_step 22 = .ok (.getfield 26, 3) := by decide +kernel
theorem dX9_step_25 : decode cX9_step 25 = .ok (.aload_n 0, 1) := by decide +kernel
theorem dX9_step_26 : decode cX9_step 26 = .ok (.getfield 47, 3) := by decide +kernel
theorem dX9_step_29 : decode cX9_step 29 = .ok (.getfield 112, 3) := by decide +kernel
theorem dX9_step_32 : decode cX9_step 32 = .ok (.iload_n 1, 1) := by decide +kernel
theorem dX9_step_33 : decode cX9_step 33 = .ok (.invokevirtual 171, 3) := by decide +kernel
theorem dX9_step_36 : decode cX9_step 36 = .ok (.putfield 112, 3) := by decide +kernel
theorem dX9_step_39 : decode cX9_step 39 = .ok (.aload_n 0, 1) := by decide +kernel
theorem dX9_step_40 : decode cX9_step 40 = .ok (.getfield 26, 3) := by decide +kernel
theorem dX9_step_43 : decode cX9_step 43 = .ok (.aload_n 0, 1) := by decide +kernel
theorem dX9_step_44 : decode cX9_step 44 = .ok (.getfield 47, 3) := by decide +kernel
theorem dX9_step_47 : decode cX9_step 47 = .ok (.getfield 112, 3) := by decide +kernel
theorem dX9_step_50 : decode cX9_step 50 = .ok (.iload_n 1, 1) := by decide +kernel
theorem dX9_step_51 : decode cX9_step 51 = .ok (.invokevirtual 139, 3) := by decide +kernel
theorem dX9_step_54 : decode cX9_step 54 = .ok (.ireturn, 1) := by decide +kernel
theorem dX9_find_0 : decode cX9_find 0 = .ok (.iconst 0, 1) := by decide +kernel
theorem dX9_find_1 : decode cX9_find 1 = .ok (.istore_n 1, 1) := by decide +kernel
theorem dX9_find_2 : decode cX9_find 2 = .ok (.iconst 0, 1) := by decide +kernel
theorem dX9_find_3 : decode cX9_find 3 = .ok (.istore_n 2, 1) := by decide +kernel
theorem dX9_find_4 : decode cX9_find 4 = .ok (.iload_n 2, 1) := by decide +kernel
theorem dX9_find_5 : decode cX9_find 5 = .ok (.aload_n 0, 1) := by decide +kernel
theorem dX9_find_6 : decode cX9_find 6 = .ok (.getfield 26, 3) := by decide +kernel
theorem dX9_find_9 : decode cX9_find 9 = .ok (.invokevirtual 125, 3) := by decide +kernel
theorem dX9_find_12 : decode cX9_find 12 = .ok (.if_icmp .ge 45, 3) := by decide +kernel
theorem dX9_find_15 : decode cX9_find 15 = .ok (.aload_n 0, 1) := by decide +kernel
theorem dX9_find_16 : decode cX9_find 16 = .ok (.getfield 26, 3) := by decide +kernel
theorem dX9_find_19 : decode cX9_find 19 = .ok (.aload_n 0, 1) := by decide +kernel
theorem dX9_find_20 : decode cX9_find 20 = .ok (.getfield 47, 3) := by decide +kernel
theorem dX9_find_23 : decode cX9_find 23 = .ok (.getfield 112, 3) := by decide +kernel
theorem dX9_find_26 : decode cX9_find 26 = .ok (.iload_n 2, 1) := by decide +kernel
theorem dX9_find_27 : decode cX9_find 27 = .ok (.invokevirtual 139, 3) := by decide +kernel
theorem dX9_find_30 : decode cX9_find 30 = .ok (.aload_n 0, 1) := by decide +kernel
theorem dX9_find_31 : decode cX9_find 31 = .ok (.getfield 26, 3) := by decide +kernel
theorem dX9_find_34 : decode cX9_find 34 = .ok (.aload_n 0, 1) := by decide +kernel
theorem dX9_find_35 : decode cX9_find 35 = .ok (.getfield 47, 3) := by decide +kernel
theorem dX9_find_38 : decode cX9_find 38 = .ok (.getfield 116, 3) := by decide +kernel
theorem dX9_find_41 : decode cX9_find 41 = .ok (.iload_n 2, 1) := by decide +kernel
theorem dX9_find_42 : decode cX9_find 42 = .ok (.invokevirtual 139, 3) := by decide +kernel
theorem dX9_find_45 : decode cX9_find 45 = .ok (.if_icmp .eq 6, 3) := by decide +kernel
theorem dX9_find_48 : decode cX9_find 48 = .ok (.iinc 1 1, 3) := by decide +kernel
theorem dX9_find_51 : decode cX9_find 51 = .ok (.iinc 2 1, 3) := by decide +kernel
theorem dX9_find_54 : decode cX9_find 54 = .ok (.goto (-50), 3) := by decide +kernel
theorem dX9_find_57 : decode cX9_find 57 = .ok (.iload_n 1, 1) := by decide +kernel
theorem dX9_find_58 : decode cX9_find 58 = .ok (.ifCond .ne 6, 3) := by decide +kernel
theorem dX9_find_61 : decode cX9_find 61 = .ok (.bipush (-3), 2) := by decide +kernel
theorem dX9_find_63 : decode cX9_find 63 = .ok (.ireturn, 1) := by decide +kernel
theorem dX9_find_64 : decode cX9_find 64 = .ok (.aload_n 0, 1) := by decide +kernel
theorem dX9_find_65 : decode cX9_find 65 = .ok (.invokevirtual 162, 3) := by decide +kernel
theorem dX9_find_68 : decode cX9_find 68 = .ok (.aload_n 0, 1) := by decide +kernel
theorem dX9_find_69 : decode cX9_find 69 = .ok (.getfield 47, 3) := by decide +kernel
theorem dX9_find_72 : decode cX9_find 72 = .ok (.aload_n 0, 1) := by decide +kernel
theorem dX9_find_73 : decode cX9_find 73 = .ok (.getfield 47, 3) := by decide +kernel
theorem dX9_find_76 : decode cX9_find 76 = .ok (.getfield 112, 3) := by decide +kernel
theorem dX9_find_79 : decode cX9_find 79 = .ok (.putfield 116, 3) := by decide +kernel
theorem dX9_find_82 : decode cX9_find 82 = .ok (.iload_n 1, 1) := by decide +kernel
theorem dX9_find_83 : decode cX9_find 83 = .ok (.ireturn, 1) := by decide +kernel
theorem dX9_undo_0 : decode cX9_undo 0 = .ok (.aload_n 0, 1) := by decide +kernel
theorem dX9_undo_1 : decode cX9_undo 1 = .ok (.getfield 121, 3) := by decide +kernel
theorem dX9_undo_4 : decode cX9_undo 4 = .ok (.ifCond .ne 6, 3) := by decide +kernel
theorem dX9_undo_7 : decode cX9_undo 7 = .ok (.bipush (-3), 2) := by decide +kernel
theorem dX9_undo_9 : decode cX9_undo 9 = .ok (.ireturn, 1) := by decide +kernel
theorem dX9_undo_10 : decode cX9_undo 10 = .ok (.aload_n 0, 1) := by decide +kernel
theorem dX9_undo_11 : decode cX9_undo 11 = .ok (.dup, 1) := by decide +kernel
theorem dX9_undo_12 : decode cX9_undo 12 = .ok (.getfield 121, 3) := by decide +kernel
theorem dX9_undo_15 : decode cX9_undo 15 = .ok (.iconst 1, 1) := by decide +kernel
theorem dX9_undo_16 : decode cX9_undo 16 = .ok (.isub, 1) := by decide +kernel
theorem dX9_undo_17 : decode cX9_undo 17 = .ok (.putfield 121, 3) := by decide +kernel
theorem dX9_undo_20 : decode cX9_undo 20 = .ok (.aload_n 0, 1) := by decide +kernel
theorem dX9_undo_21 : decode cX9_undo 21 = .ok (.getfield 56, 3) := by decide +kernel
theorem dX9_undo_24 : decode cX9_undo 24 = .ok (.aload_n 0, 1) := by decide +kernel
theorem dX9_undo_25 : decode cX9_undo 25 = .ok (.getfield 121, 3) := by decide +kernel
theorem dX9_undo_28 : decode cX9_undo 28 = .ok (.aload_n 0, 1) := by decide +kernel
theorem dX9_undo_29 : decode cX9_undo 29 = .ok (.getfield 47, 3) := by decide +kernel
theorem dX9_undo_32 : decode cX9_undo 32 = .ok (.invokevirtual 174, 3) := by decide +kernel
theorem dX9_undo_35 : decode cX9_undo 35 = .ok (.aload_n 0, 1) := by decide +kernel
theorem dX9_undo_36 : decode cX9_undo 36 = .ok (.getfield 121, 3) := by decide +kernel
theorem dX9_undo_39 : decode cX9_undo 39 = .ok (.ireturn, 1) := by decide +kernel
theorem dX9_after_0 : decode cX9_after 0 = .ok (.iload_n 1, 1) := by decide +kernel
theorem dX9_after_1 : decode cX9_after 1 = .ok (.iconst 1, 1) := by decide +kernel
theorem dX9_after_2 : decode cX9_after 2 = .ok (.if_icmp .lt 17, 3) := by decide +kernel
theorem dX9_after_5 : decode cX9_after 5 = .ok (.iload_n 1, 1) := by decide +kernel
theorem dX9_after_6 : decode cX9_after 6 = .ok (.bipush 6, 2) := by decide +kernel
theorem dX9_after_8 : decode cX9_after 8 = .ok (.if_icmp .gt 11, 3) := by decide +kernel
theorem dX9_after_11 : decode cX9_after 11 = .ok (.iload_n 1, 1) := by decide +kernel
theorem dX9_after_12 : decode cX9_after 12 = .ok (.iload_n 2, 1) := by decide +kernel
theorem dX9_after_13 : decode cX9_after 13 = .ok (.invokestatic 178, 3) := by decide +kernel
theorem dX9_after_16 : decode cX9_after 16 = .ok (.ifCond .ne 6, 3) := by decide +kernel
theorem dX9_after_19 : decode cX9_after 19 = .ok (.bipush (-2), 2) := by decide +kernel
theorem dX9_after_21 : decode cX9_after 21 = .ok (.ireturn, 1) := by decide +kernel
theorem dX9_after_22 : decode cX9_after 22 = .ok (.aload_n 0, 1) := by decide +kernel
theorem dX9_after_23 : decode cX9_after 23 = .ok (.getfield 40, 3) := by decide +kernel
theorem dX9_after_26 : decode cX9_after 26 = .ok (.iload_n 1, 1) := by decide +kernel
theorem dX9_after_27 : decode cX9_after 27 = .ok (.iload_n 2, 1) := by decide +kernel
theorem dX9_after_28 : decode cX9_after 28 = .ok (.invokevirtual 182, 3) := by decide +kernel
theorem dX9_after_31 : decode cX9_after 31 = .ok (.aload_n 0, 1) := by decide +kernel
theorem dX9_after_32 : decode cX9_after 32 = .ok (.getfield 40, 3) := by decide +kernel
theorem dX9_after_35 : decode cX9_after 35 = .ok (.aload_n 0, 1) := by decide +kernel
theorem dX9_after_36 : decode cX9_after 36 = .ok (.getfield 26, 3) := by decide +kernel
theorem dX9_after_39 : decode cX9_after 39 = .ok (.invokevirtual 186, 3) := by decide +kernel
theorem dX9_after_42 : decode cX9_after 42 = .ok (.ifCond .ne 6, 3) := by decide +kernel
theorem dX9_after_45 : decode cX9_after 45 = .ok (.bipush (-3), 2) := by decide +kernel
theorem dX9_after_47 : decode cX9_after 47 = .ok (.ireturn, 1) := by decide +kernel
theorem dX9_after_48 : decode cX9_after 48 = .ok (.aload_n 0, 1) := by decide +kernel
theorem dX9_after_49 : decode cX9_after 49 = .ok (.getfield 26, 3) := by decide +kernel
theorem dX9_after_52 : decode cX9_after 52 = .ok (.aload_n 0, 1) := by decide +kernel
theorem dX9_after_53 : decode cX9_after 53 = .ok (.getfield 40, 3) := by decide +kernel
theorem dX9_after_56 : decode cX9_after 56 = .ok (.aload_n 0, 1) := by decide +kernel
theorem dX9_after_57 : decode cX9_after 57 = .ok (.getfield 26, 3) := by decide +kernel
theorem dX9_after_60 : decode cX9_after 60 = .ok (.aload_n 0, 1) := by decide +kernel
theorem dX9_after_61 : decode cX9_after 61 = .ok (.getfield 47, 3) := by decide +kernel
theorem dX9_after_64 : decode cX9_after 64 = .ok (.getfield 112, 3) := by decide +kernel
theorem dX9_after_67 : decode cX9_after 67 = .ok (.invokevirtual 190, 3) := by decide +kernel
theorem dX9_after_70 : decode cX9_after 70 = .ok (.invokevirtual 168, 3) := by decide +kernel
theorem dX9_after_73 : decode cX9_after 73 = .ok (.ireturn, 1) := by decide +kernel
theorem dX9_all_0 : decode cX9_all 0 = .ok (.aload_n 0, 1) := by decide +kernel
theorem dX9_all_1 : decode cX9_all 1 = .ok (.getfield 47, 3) := by decide +kernel
theorem dX9_all_4 : decode cX9_all 4 = .ok (.getfield 112, 3) := by decide +kernel
theorem dX9_all_7 : decode cX9_all 7 = .ok (.istore_n 1, 1) := by decide +kernel
theorem dX9_all_8 : decode cX9_all 8 = .ok (.iconst 0, 1) := by decide +kernel
theorem dX9_all_9 : decode cX9_all 9 = .ok (.istore_n 2, 1) := by decide +kernel
theorem dX9_all_10 : decode cX9_all 10 = .ok (.iload_n 2, 1) := by decide +kernel
theorem dX9_all_11 : decode cX9_all 11 = .ok (.aload_n 0, 1) := by decide +kernel
theorem dX9_all_12 : decode cX9_all 12 = .ok (.getfield 26, 3) := by decide +kernel
theorem dX9_all_15 : decode cX9_all 15 = .ok (.invokevirtual 128, 3) := by decide +kernel
theorem dX9_all_18 : decode cX9_all 18 = .ok (.if_icmp .ge 19, 3) := by decide +kernel
theorem dX9_all_21 : decode cX9_all 21 = .ok (.aload_n 0, 1) := by decide +kernel
theorem dX9_all_22 : decode cX9_all 22 = .ok (.getfield 26, 3) := by decide +kernel
theorem dX9_all_25 : decode cX9_all 25 = .ok (.iload_n 1, 1) := by decide +kernel
theorem dX9_all_26 : decode cX9_all 26 = .ok (.iload_n 2, 1) := by decide +kernel
theorem dX9_all_27 : decode cX9_all 27 = .ok (.invokevirtual 165, 3) := by decide +kernel
theorem dX9_all_30 : decode cX9_all 30 = .ok (.istore_n 1, 1) := by decide +kernel
theorem dX9_all_31 : decode cX9_all 31 = .ok (.iinc 2 1, 3) := by decide +kernel
theorem dX9_all_34 : decode cX9_all 34 = .ok (.goto (-24), 3) := by decide +kernel
theorem dX9_all_37 : decode cX9_all 37 = .ok (.aload_n 0, 1) := by decide +kernel
theorem dX9_all_38 : decode cX9_all 38 = .ok (.getfield 26, 3) := by decide +kernel
theorem dX9_all_41 : decode cX9_all 41 = .ok (.iload_n 1, 1) := by decide +kernel
theorem dX9_all_42 : decode cX9_all 42 = .ok (.invokevirtual 168, 3) := by decide +kernel
theorem dX9_all_45 : decode cX9_all 45 = .ok (.ireturn, 1) := by decide +kernel
theorem dX9_fewest_0 : decode cX9_fewest 0 = .ok (.aload_n 0, 1) := by decide +kernel
theorem dX9_fewest_1 : decode cX9_fewest 1 = .ok (.getfield 26, 3) := by decide +kernel
theorem dX9_fewest_4 : decode cX9_fewest 4 = .ok (.iload_n 1, 1) := by decide +kernel
theorem dX9_fewest_5 : decode cX9_fewest 5 = .ok (.invokevirtual 193, 3) := by decide +kernel
theorem dX9_fewest_8 : decode cX9_fewest 8 = .ok (.istore_n 3, 1) := by decide +kernel
theorem dX9_fewest_9 : decode cX9_fewest 9 = .ok (.iload_n 3, 1) := by decide +kernel
theorem dX9_fewest_10 : decode cX9_fewest 10 = .ok (.iconst (-1), 1) := by decide +kernel
theorem dX9_fewest_11 : decode cX9_fewest 11 = .ok (.if_icmp .ne 6, 3) := by decide +kernel
theorem dX9_fewest_14 : decode cX9_fewest 14 = .ok (.bipush (-2), 2) := by decide +kernel
theorem dX9_fewest_16 : decode cX9_fewest 16 = .ok (.ireturn, 1) := by decide +kernel
theorem dX9_fewest_17 : decode cX9_fewest 17 = .ok (.aload_n 0, 1) := by decide +kernel
theorem dX9_fewest_18 : decode cX9_fewest 18 = .ok (.getfield 33, 3) := by decide +kernel
theorem dX9_fewest_21 : decode cX9_fewest 21 = .ok (.iload_n 3, 1) := by decide +kernel
theorem dX9_fewest_22 : decode cX9_fewest 22 = .ok (.aload_n 0, 1) := by decide +kernel
theorem dX9_fewest_23 : decode cX9_fewest 23 = .ok (.getfield 26, 3) := by decide +kernel
theorem dX9_fewest_26 : decode cX9_fewest 26 = .ok (.invokevirtual 196, 3) := by decide +kernel
theorem dX9_fewest_29 : decode cX9_fewest 29 = .ok (.invokevirtual 199, 3) := by decide +kernel
theorem dX9_fewest_32 : decode cX9_fewest 32 = .ok (.pop, 1) := by decide +kernel
theorem dX9_fewest_33 : decode cX9_fewest 33 = .ok (.aload_n 0, 1) := by decide +kernel
theorem dX9_fewest_34 : decode cX9_fewest 34 = .ok (.getfield 33, 3) := by decide +kernel
theorem dX9_fewest_37 : decode cX9_fewest 37 = .ok (.aload_n 0, 1) := by decide +kernel
theorem dX9_fewest_38 : decode cX9_fewest 38 = .ok (.getfield 47, 3) := by decide +kernel
theorem dX9_fewest_41 : decode cX9_fewest 41 = .ok (.getfield 112, 3) := by decide +kernel
theorem dX9_fewest_44 : decode cX9_fewest 44 = .ok (.invokevirtual 202, 3) := by decide +kernel
theorem dX9_fewest_47 : decode cX9_fewest 47 = .ok (.istore 4, 2) := by decide +kernel
theorem dX9_fewest_49 : decode cX9_fewest 49 = .ok (.iload 4, 2) := by decide +kernel
theorem dX9_fewest_51 : decode cX9_fewest 51 = .ok (.iconst (-1), 1) := by decide +kernel
theorem dX9_fewest_52 : decode cX9_fewest 52 = .ok (.if_icmp .ne 6, 3) := by decide +kernel
theorem dX9_fewest_55 : decode cX9_fewest 55 = .ok (.bipush (-9), 2) := by decide +kernel
theorem dX9_fewest_57 : decode cX9_fewest 57 = .ok (.ireturn, 1) := by decide +kernel
theorem dX9_fewest_58 : decode cX9_fewest 58 = .ok (.iload_n 2, 1) := by decide +kernel
theorem dX9_fewest_59 : decode cX9_fewest 59 = .ok (.ifCond .eq 12, 3) := by decide +kernel
theorem dX9_fewest_62 : decode cX9_fewest 62 = .ok (.aload_n 0, 1) := by decide +kernel
theorem dX9_fewest_63 : decode cX9_fewest 63 = .ok (.iload 4, 2) := by decide +kernel
theorem dX9_fewest_65 : decode cX9_fewest 65 = .ok (.invokevirtual 205, 3) := by decide +kernel
theorem dX9_fewest_68 : decode cX9_fewest 68 = .ok (.goto 5, 3) := by decide +kernel
theorem dX9_fewest_71 : decode cX9_fewest 71 = .ok (.iload 4, 2) := by decide +kernel
theorem dX9_fewest_73 : decode cX9_fewest 73 = .ok (.ireturn, 1) := by decide +kernel
theorem dX9_worst_0 : decode cX9_worst 0 = .ok (.aload_n 0, 1) := by decide +kernel
theorem dX9_worst_1 : decode cX9_worst 1 = .ok (.getfield 26, 3) := by decide +kernel
theorem dX9_worst_4 : decode cX9_worst 4 = .ok (.iload_n 1, 1) := by decide +kernel
theorem dX9_worst_5 : decode cX9_worst 5 = .ok (.invokevirtual 193, 3) := by decide +kernel
theorem dX9_worst_8 : decode cX9_worst 8 = .ok (.istore_n 3, 1) := by decide +kernel
theorem dX9_worst_9 : decode cX9_worst 9 = .ok (.iload_n 3, 1) := by decide +kernel
theorem dX9_worst_10 : decode cX9_worst 10 = .ok (.iconst (-1), 1) := by decide +kernel
theorem dX9_worst_11 : decode cX9_worst 11 = .ok (.if_icmp .eq 12, 3) := by decide +kernel
theorem dX9_worst_14 : decode cX9_worst 14 = .ok (.iload_n 2, 1) := by decide +kernel
theorem dX9_worst_15 : decode cX9_worst 15 = .ok (.ifCond .lt 8, 3) := by decide +kernel
theorem dX9_worst_18 : decode cX9_worst 18 = .ok (.iload_n 2, 1) := by decide +kernel
theorem dX9_worst_19 : decode cX9_worst 19 = .ok (.iconst 1, 1) := by decide +kernel
theorem dX9_worst_20 : decode cX9_worst 20 = .ok (.if_icmp .le 6, 3) := by decide +kernel
theorem dX9_worst_23 : decode cX9_worst 23 = .ok (.bipush (-2), 2) := by decide +kernel
theorem dX9_worst_25 : decode cX9_worst 25 = .ok (.ireturn, 1) := by decide +kernel
theorem dX9_worst_26 : decode cX9_worst 26 = .ok (.aload_n 0, 1) := by decide +kernel
theorem dX9_worst_27 : decode cX9_worst 27 = .ok (.getfield 33, 3) := by decide +kernel
theorem dX9_worst_30 : decode cX9_worst 30 = .ok (.iload_n 3, 1) := by decide +kernel
theorem dX9_worst_31 : decode cX9_worst 31 = .ok (.aload_n 0, 1) := by decide +kernel
theorem dX9_worst_32 : decode cX9_worst 32 = .ok (.getfield 26, 3) := by decide +kernel
theorem dX9_worst_35 : decode cX9_worst 35 = .ok (.invokevirtual 196, 3) := by decide +kernel
theorem dX9_worst_38 : decode cX9_worst 38 = .ok (.invokevirtual 199, 3) := by decide +kernel
theorem dX9_worst_41 : decode cX9_worst 41 = .ok (.istore 4, 2) := by decide +kernel
theorem dX9_worst_43 : decode cX9_worst 43 = .ok (.iload_n 2, 1) := by decide +kernel
theorem dX9_worst_44 : decode cX9_worst 44 = .ok (.iconst 1, 1) := by decide +kernel
theorem dX9_worst_45 : decode cX9_worst 45 = .ok (.if_icmp .ne 8, 3) := by decide +kernel
theorem dX9_worst_48 : decode cX9_worst 48 = .ok (.iload 4, 2) := by decide +kernel
theorem dX9_worst_50 : decode cX9_worst 50 = .ok (.goto 10, 3) := by decide +kernel
theorem dX9_worst_53 : decode cX9_worst 53 = .ok (.aload_n 0, 1) := by decide +kernel
theorem dX9_worst_54 : decode cX9_worst 54 = .ok (.getfield 33, 3) := by decide +kernel
theorem dX9_worst_57 : decode cX9_worst 57 = .ok (.invokevirtual 208, 3) := by decide +kernel
theorem dX9_worst_60 : decode cX9_worst 60 = .ok (.ireturn, 1) := by decide +kernel
theorem dX9_sure_0 : decode cX9_sure 0 = .ok (.aload_n 0, 1) := by decide +kernel
theorem dX9_sure_1 : decode cX9_sure 1 = .ok (.getfield 26, 3) := by decide +kernel
theorem dX9_sure_4 : decode cX9_sure 4 = .ok (.iload_n 1, 1) := by decide +kernel
theorem dX9_sure_5 : decode cX9_sure 5 = .ok (.invokevirtual 193, 3) := by decide +kernel
theorem dX9_sure_8 : decode cX9_sure 8 = .ok (.istore_n 3, 1) := by decide +kernel
theorem dX9_sure_9 : decode cX9_sure 9 = .ok (.iload_n 3, 1) := by decide +kernel
theorem dX9_sure_10 : decode cX9_sure 10 = .ok (.iconst (-1), 1) := by decide +kernel
theorem dX9_sure_11 : decode cX9_sure 11 = .ok (.if_icmp .ne 6, 3) := by decide +kernel
theorem dX9_sure_14 : decode cX9_sure 14 = .ok (.bipush (-2), 2) := by decide +kernel
theorem dX9_sure_16 : decode cX9_sure 16 = .ok (.ireturn, 1) := by decide +kernel
theorem dX9_sure_17 : decode cX9_sure 17 = .ok (.iconst 0, 1) := by decide +kernel
theorem dX9_sure_18 : decode cX9_sure 18 = .ok (.istore 4, 2) := by decide +kernel
theorem dX9_sure_20 : decode cX9_sure 20 = .ok (.iload 4, 2) := by decide +kernel
theorem dX9_sure_22 : decode cX9_sure 22 = .ok (.sipush 666, 3) := by decide +kernel
theorem dX9_sure_25 : decode cX9_sure 25 = .ok (.if_icmp .gt 67, 3) := by decide +kernel
theorem dX9_sure_28 : decode cX9_sure 28 = .ok (.aload_n 0, 1) := by decide +kernel
theorem dX9_sure_29 : decode cX9_sure 29 = .ok (.getfield 40, 3) := by decide +kernel
theorem dX9_sure_32 : decode cX9_sure 32 = .ok (.iload 4, 2) := by decide +kernel
theorem dX9_sure_34 : decode cX9_sure 34 = .ok (.invokestatic 211, 3) := by decide +kernel
theorem dX9_sure_37 : decode cX9_sure 37 = .ok (.iload 4, 2) := by decide +kernel
theorem dX9_sure_39 : decode cX9_sure 39 = .ok (.invokevirtual 182, 3) := by decide +kernel
theorem dX9_sure_42 : decode cX9_sure 42 = .ok (.aload_n 0, 1) := by decide +kernel
theorem dX9_sure_43 : decode cX9_sure 43 = .ok (.getfield 40, 3) := by decide +kernel
theorem dX9_sure_46 : decode cX9_sure 46 = .ok (.aload_n 0, 1) := by decide +kernel
theorem dX9_sure_47 : decode cX9_sure 47 = .ok (.getfield 26, 3) := by decide +kernel
theorem dX9_sure_50 : decode cX9_sure 50 = .ok (.invokevirtual 186, 3) := by decide +kernel
theorem dX9_sure_53 : decode cX9_sure 53 = .ok (.ifCond .eq 33, 3) := by decide +kernel
theorem dX9_sure_56 : decode cX9_sure 56 = .ok (.aload_n 0, 1) := by decide +kernel
theorem dX9_sure_57 : decode cX9_sure 57 = .ok (.getfield 40, 3) := by decide +kernel
theorem dX9_sure_60 : decode cX9_sure 60 = .ok (.aload_n 0, 1) := by decide +kernel
theorem dX9_sure_61 : decode cX9_sure 61 = .ok (.getfield 26, 3) := by decide +kernel
theorem dX9_sure_64 : decode cX9_sure 64 = .ok (.iload_n 3, 1) := by decide +kernel
theorem dX9_sure_65 : decode cX9_sure 65 = .ok (.invokevirtual 214, 3) := by decide +kernel
theorem dX9_sure_68 : decode cX9_sure 68 = .ok (.ifCond .eq 18, 3) := by decide +kernel
theorem dX9_sure_71 : decode cX9_sure 71 = .ok (.iload_n 2, 1) := by decide +kernel
theorem dX9_sure_72 : decode cX9_sure 72 = .ok (.ifCond .eq 8, 3) := by decide +kernel
theorem dX9_sure_75 : decode cX9_sure 75 = .ok (.iload 4, 2) := by decide +kernel
theorem dX9_sure_77 : decode cX9_sure 77 = .ok (.goto 8, 3) := by decide +kernel
theorem dX9_sure_80 : decode cX9_sure 80 = .ok (.iload 4, 2) := by decide +kernel
theorem dX9_sure_82 : decode cX9_sure 82 = .ok (.invokestatic 211, 3) := by decide +kernel
theorem dX9_sure_85 : decode cX9_sure 85 = .ok (.ireturn, 1) := by decide +kernel
theorem dX9_sure_86 : decode cX9_sure 86 = .ok (.iinc 4 1, 3) := by decide +kernel
theorem dX9_sure_89 : decode cX9_sure 89 = .ok (.goto (-69), 3) := by decide +kernel
theorem dX9_sure_92 : decode cX9_sure 92 = .ok (.bipush (-9), 2) := by decide +kernel
theorem dX9_sure_94 : decode cX9_sure 94 = .ok (.ireturn, 1) := by decide +kernel
theorem dX9_needed_0 : decode cX9_needed 0 = .ok (.aload_n 0, 1) := by decide +kernel
theorem dX9_needed_1 : decode cX9_needed 1 = .ok (.getfield 26, 3) := by decide +kernel
theorem dX9_needed_4 : decode cX9_needed 4 = .ok (.iload_n 1, 1) := by decide +kernel
theorem dX9_needed_5 : decode cX9_needed 5 = .ok (.invokevirtual 193, 3) := by decide +kernel
theorem dX9_needed_8 : decode cX9_needed 8 = .ok (.istore_n 2, 1) := by decide +kernel
theorem dX9_needed_9 : decode cX9_needed 9 = .ok (.iload_n 2, 1) := by decide +kernel
theorem dX9_needed_10 : decode cX9_needed 10 = .ok (.iconst (-1), 1) := by decide +kernel
theorem dX9_needed_11 : decode cX9_needed 11 = .ok (.if_icmp .ne 6, 3) := by decide +kernel
theorem dX9_needed_14 : decode cX9_needed 14 = .ok (.bipush (-2), 2) := by decide +kernel
theorem dX9_needed_16 : decode cX9_needed 16 = .ok (.ireturn, 1) := by decide +kernel
theorem dX9_needed_17 : decode cX9_needed 17 = .ok (.iconst 0, 1) := by decide +kernel
theorem dX9_needed_18 : decode cX9_needed 18 = .ok (.istore_n 3, 1) := by decide +kernel
theorem dX9_needed_19 : decode cX9_needed 19 = .ok (.iload_n 3, 1) := by decide +kernel
theorem dX9_needed_20 : decode cX9_needed 20 = .ok (.aload_n 0, 1) := by decide +kernel
theorem dX9_needed_21 : decode cX9_needed 21 = .ok (.getfield 26, 3) := by decide +kernel
theorem dX9_needed_24 : decode cX9_needed 24 = .ok (.invokevirtual 128, 3) := by decide +kernel
theorem dX9_needed_27 : decode cX9_needed 27 = .ok (.if_icmp .gt 52, 3) := by decide +kernel
theorem dX9_needed_30 : decode cX9_needed 30 = .ok (.iconst 0, 1) := by decide +kernel
theorem dX9_needed_31 : decode cX9_needed 31 = .ok (.istore 4, 2) := by decide +kernel
theorem dX9_needed_33 : decode cX9_needed 33 = .ok (.iload 4, 2) := by decide +kernel
theorem dX9_needed_35 : decode cX9_needed 35 = .ok (.aload_n 0, 1) := by decide +kernel
theorem dX9_needed_36 : decode cX9_needed 36 = .ok (.getfield 26, 3) := by decide +kernel
theorem dX9_needed_39 : decode cX9_needed 39 = .ok (.invokevirtual 196, 3) := by decide +kernel
theorem dX9_needed_42 : decode cX9_needed 42 = .ok (.if_icmp .gt 31, 3) := by decide +kernel
theorem dX9_needed_45 : decode cX9_needed 45 = .ok (.iload 4, 2) := by decide +kernel
theorem dX9_needed_47 : decode cX9_needed 47 = .ok (.invokestatic 218, 3) := by decide +kernel
theorem dX9_needed_50 : decode cX9_needed 50 = .ok (.iload_n 3, 1) := by decide +kernel
theorem dX9_needed_51 : decode cX9_needed 51 = .ok (.if_icmp .ne 16, 3) := by decide +kernel
theorem dX9_needed_54 : decode cX9_needed 54 = .ok (.aload_n 0, 1) := by decide +kernel
theorem dX9_needed_55 : decode cX9_needed 55 = .ok (.iload_n 2, 1) := by decide +kernel
theorem dX9_needed_56 : decode cX9_needed 56 = .ok (.iload 4, 2) := by decide +kernel
theorem dX9_needed_58 : decode cX9_needed 58 = .ok (.invokevirtual 223, 3) := by decide +kernel
theorem dX9_needed_61 : decode cX9_needed 61 = .ok (.ifCond .eq 6, 3) := by decide +kernel
theorem dX9_needed_64 : decode cX9_needed 64 = .ok (.iload 4, 2) := by decide +kernel
theorem dX9_needed_66 : decode cX9_needed 66 = .ok (.ireturn, 1) := by decide +kernel
theorem dX9_needed_67 : decode cX9_needed 67 = .ok (.iinc 4 1, 3) := by decide +kernel
theorem dX9_needed_70 : decode cX9_needed 70 = .ok (.goto (-37), 3) := by decide +kernel
theorem dX9_needed_73 : decode cX9_needed 73 = .ok (.iinc 3 1, 3) := by decide +kernel
theorem dX9_needed_76 : decode cX9_needed 76 = .ok (.goto (-57), 3) := by decide +kernel
theorem dX9_needed_79 : decode cX9_needed 79 = .ok (.bipush (-9), 2) := by decide +kernel
theorem dX9_needed_81 : decode cX9_needed 81 = .ok (.ireturn, 1) := by decide +kernel
theorem dX9_judge_0 : decode cX9_judge 0 = .ok (.iload_n 1, 1) := by decide +kernel
theorem dX9_judge_1 : decode cX9_judge 1 = .ok (.iconst 1, 1) := by decide +kernel
theorem dX9_judge_2 : decode cX9_judge 2 = .ok (.if_icmp .lt 17, 3) := by decide +kernel
theorem dX9_judge_5 : decode cX9_judge 5 = .ok (.iload_n 1, 1) := by decide +kernel
theorem dX9_judge_6 : decode cX9_judge 6 = .ok (.bipush 6, 2) := by decide +kernel
theorem dX9_judge_8 : decode cX9_judge 8 = .ok (.if_icmp .gt 11, 3) := by decide +kernel
theorem dX9_judge_11 : decode cX9_judge 11 = .ok (.iload_n 1, 1) := by decide +kernel
theorem dX9_judge_12 : decode cX9_judge 12 = .ok (.iload_n 2, 1) := by decide +kernel
theorem dX9_judge_13 : decode cX9_judge 13 = .ok (.invokestatic 178, 3) := by decide +kernel
theorem dX9_judge_16 : decode cX9_judge 16 = .ok (.ifCond .ne 6, 3) := by decide +kernel
theorem dX9_judge_19 : decode cX9_judge 19 = .ok (.bipush (-2), 2) := by decide +kernel
theorem dX9_judge_21 : decode cX9_judge 21 = .ok (.ireturn, 1) := by decide +kernel
theorem dX9_judge_22 : decode cX9_judge 22 = .ok (.aload_n 0, 1) := by decide +kernel
theorem dX9_judge_23 : decode cX9_judge 23 = .ok (.getfield 40, 3) := by decide +kernel
theorem dX9_judge_26 : decode cX9_judge 26 = .ok (.iload_n 1, 1) := by decide +kernel
theorem dX9_judge_27 : decode cX9_judge 27 = .ok (.iload_n 2, 1) := by decide +kernel
theorem dX9_judge_28 : decode cX9_judge 28 = .ok (.invokevirtual 182, 3) := by decide +kernel
theorem dX9_judge_31 : decode cX9_judge 31 = .ok (.aload_n 0, 1) := by decide +kernel
theorem dX9_judge_32 : decode cX9_judge 32 = .ok (.getfield 47, 3) := by decide +kernel
theorem dX9_judge_35 : decode cX9_judge 35 = .ok (.getfield 112, 3) := by decide +kernel
theorem dX9_judge_38 : decode cX9_judge 38 = .ok (.istore_n 3, 1) := by decide +kernel
theorem dX9_judge_39 : decode cX9_judge 39 = .ok (.iconst 0, 1) := by decide +kernel
theorem dX9_judge_40 : decode cX9_judge 40 = .ok (.istore 4, 2) := by decide +kernel
theorem dX9_judge_42 : decode cX9_judge 42 = .ok (.iload 4, 2) := by decide +kernel
theorem dX9_judge_44 : decode cX9_judge 44 = .ok (.iload_n 1, 1) := by decide +kernel
theorem dX9_judge_45 : decode cX9_judge 45 = .ok (.if_icmp .ge 60, 3) := by decide +kernel
theorem dX9_judge_48 : decode cX9_judge 48 = .ok (.aload_n 0, 1) := by decide +kernel
theorem dX9_judge_49 : decode cX9_judge 49 = .ok (.getfield 40, 3) := by decide +kernel
theorem dX9_judge_52 : decode cX9_judge 52 = .ok (.iload 4, 2) := by decide +kernel
theorem dX9_judge_54 : decode cX9_judge 54 = .ok (.invokevirtual 226, 3) := by decide +kernel
theorem dX9_judge_57 : decode cX9_judge 57 = .ok (.istore 5, 2) := by decide +kernel
theorem dX9_judge_59 : decode cX9_judge 59 = .ok (.aload_n 0, 1) := by decide +kernel
theorem dX9_judge_60 : decode cX9_judge 60 = .ok (.getfield 26, 3) := by decide +kernel
theorem dX9_judge_63 : decode cX9_judge 63 = .ok (.iload 5, 2) := by decide +kernel
theorem dX9_judge_65 : decode cX9_judge 65 = .ok (.invokevirtual 143, 3) := by decide +kernel
theorem dX9_judge_68 : decode cX9_judge 68 = .ok (.ifCond .eq 16, 3) := by decide +kernel
theorem dX9_judge_71 : decode cX9_judge 71 = .ok (.aload_n 0, 1) := by decide +kernel
theorem dX9_judge_72 : decode cX9_judge 72 = .ok (.getfield 26, 3) := by decide +kernel
theorem dX9_judge_75 : decode cX9_judge 75 = .ok (.iload_n 3, 1) := by decide +kernel
theorem dX9_judge_76 : decode cX9_judge 76 = .ok (.iload 5, 2) := by decide +kernel
theorem dX9_judge_78 : decode cX9_judge 78 = .ok (.invokevirtual 165, 3) := by decide +kernel
theorem dX9_judge_81 : decode cX9_judge 81 = .ok (.goto 4, 3) := by decide +kernel
theorem dX9_judge_84 : decode cX9_judge 84 = .ok (.iload_n 3, 1) := by decide +kernel
theorem dX9_judge_85 : decode cX9_judge 85 = .ok (.istore 6, 2) := by decide +kernel
theorem dX9_judge_87 : decode cX9_judge 87 = .ok (.iload 6, 2) := by decide +kernel
theorem dX9_judge_89 : decode cX9_judge 89 = .ok (.iload_n 3, 1) := by decide +kernel
theorem dX9_judge_90 : decode cX9_judge 90 = .ok (.if_icmp .ne 6, 3) := by decide +kernel
theorem dX9_judge_93 : decode cX9_judge 93 = .ok (.iload 4, 2) := by decide +kernel
theorem dX9_judge_95 : decode cX9_judge 95 = .ok (.ireturn, 1) := by decide +kernel
theorem dX9_judge_96 : decode cX9_judge 96 = .ok (.iload 6, 2) := by decide +kernel
theorem dX9_judge_98 : decode cX9_judge 98 = .ok (.istore_n 3, 1) := by decide +kernel
theorem dX9_judge_99 : decode cX9_judge 99 = .ok (.iinc 4 1, 3) := by decide +kernel
theorem dX9_judge_102 : decode cX9_judge 102 = .ok (.goto (-60), 3) := by decide +kernel
theorem dX9_judge_105 : decode cX9_judge 105 = .ok (.bipush (-9), 2) := by decide +kernel
theorem dX9_judge_107 : decode cX9_judge 107 = .ok (.ireturn, 1) := by decide +kernel
theorem dX9_see_0 : decode cX9_see 0 = .ok (.iload_n 1, 1) := by decide +kernel
theorem dX9_see_1 : decode cX9_see 1 = .ok (.ifCond .lt 16, 3) := by decide +kernel
theorem dX9_see_4 : decode cX9_see 4 = .ok (.iload_n 1, 1) := by decide +kernel
theorem dX9_see_5 : decode cX9_see 5 = .ok (.iconst 3, 1) := by decide +kernel
theorem dX9_see_6 : decode cX9_see 6 = .ok (.if_icmp .gt 11, 3) := by decide +kernel
theorem dX9_see_9 : decode cX9_see 9 = .ok (.iload_n 1, 1) := by decide +kernel
theorem dX9_see_10 : decode cX9_see 10 = .ok (.iload_n 2, 1) := by decide +kernel
theorem dX9_see_11 : decode cX9_see 11 = .ok (.invokestatic 178, 3) := by decide +kernel
theorem dX9_see_14 : decode cX9_see 14 = .ok (.ifCond .ne 6, 3) := by decide +kernel
theorem dX9_see_17 : decode cX9_see 17 = .ok (.bipush (-2), 2) := by decide +kernel
theorem dX9_see_19 : decode cX9_see 19 = .ok (.ireturn, 1) := by decide +kernel
theorem dX9_see_20 : decode cX9_see 20 = .ok (.iload_n 3, 1) := by decide +kernel
theorem dX9_see_21 : decode cX9_see 21 = .ok (.ifCond .lt 9, 3) := by decide +kernel
theorem dX9_see_24 : decode cX9_see 24 = .ok (.iload_n 3, 1) := by decide +kernel
theorem dX9_see_25 : decode cX9_see 25 = .ok (.bipush 15, 2) := by decide +kernel
theorem dX9_see_27 : decode cX9_see 27 = .ok (.if_icmp .le 6, 3) := by decide +kernel
theorem dX9_see_30 : decode cX9_see 30 = .ok (.bipush (-2), 2) := by decide +kernel
theorem dX9_see_32 : decode cX9_see 32 = .ok (.ireturn, 1) := by decide +kernel
theorem dX9_see_33 : decode cX9_see 33 = .ok (.aload_n 0, 1) := by decide +kernel
theorem dX9_see_34 : decode cX9_see 34 = .ok (.getfield 66, 3) := by decide +kernel
theorem dX9_see_37 : decode cX9_see 37 = .ok (.getfield 229, 3) := by decide +kernel
theorem dX9_see_40 : decode cX9_see 40 = .ok (.bipush 6, 2) := by decide +kernel
theorem dX9_see_42 : decode cX9_see 42 = .ok (.if_icmp .lt 6, 3) := by decide +kernel
theorem dX9_see_45 : decode cX9_see 45 = .ok (.bipush (-4), 2) := by decide +kernel
theorem dX9_see_47 : decode cX9_see 47 = .ok (.ireturn, 1) := by decide +kernel
theorem dX9_see_48 : decode cX9_see 48 = .ok (.aload_n 0, 1) := by decide +kernel
theorem dX9_see_49 : decode cX9_see 49 = .ok (.getfield 66, 3) := by decide +kernel
theorem dX9_see_52 : decode cX9_see 52 = .ok (.iload_n 1, 1) := by decide +kernel
theorem dX9_see_53 : decode cX9_see 53 = .ok (.iload_n 2, 1) := by decide +kernel
theorem dX9_see_54 : decode cX9_see 54 = .ok (.iload_n 3, 1) := by decide +kernel
theorem dX9_see_55 : decode cX9_see 55 = .ok (.invokevirtual 232, 3) := by decide +kernel
theorem dX9_see_58 : decode cX9_see 58 = .ok (.aload_n 0, 1) := by decide +kernel
theorem dX9_see_59 : decode cX9_see 59 = .ok (.getfield 66, 3) := by decide +kernel
theorem dX9_see_62 : decode cX9_see 62 = .ok (.getfield 229, 3) := by decide +kernel
theorem dX9_see_65 : decode cX9_see 65 = .ok (.ireturn, 1) := by decide +kernel
theorem dX9_unsee_0 : decode cX9_unsee 0 = .ok (.aload_n 0, 1) := by decide +kernel
theorem dX9_unsee_1 : decode cX9_unsee 1 = .ok (.getfield 66, 3) := by decide +kernel
theorem dX9_unsee_4 : decode cX9_unsee 4 = .ok (.getfield 229, 3) := by decide +kernel
theorem dX9_unsee_7 : decode cX9_unsee 7 = .ok (.istore_n 1, 1) := by decide +kernel
theorem dX9_unsee_8 : decode cX9_unsee 8 = .ok (.aload_n 0, 1) := by decide +kernel
theorem dX9_unsee_9 : decode cX9_unsee 9 = .ok (.getfield 66, 3) := by decide +kernel
theorem dX9_unsee_12 : decode cX9_unsee 12 = .ok (.iconst 0, 1) := by decide +kernel
theorem dX9_unsee_13 : decode cX9_unsee 13 = .ok (.putfield 229, 3) := by decide +kernel
theorem dX9_unsee_16 : decode cX9_unsee 16 = .ok (.iload_n 1, 1) := by decide +kernel
theorem dX9_unsee_17 : decode cX9_unsee 17 = .ok (.ireturn, 1) := by decide +kernel
theorem dX9_may_0 : decode cX9_may 0 = .ok (.iload_n 1, 1) := by decide +kernel
theorem dX9_may_1 : decode cX9_may 1 = .ok (.ifCond .lt 8, 3) := by decide +kernel
theorem dX9_may_4 : decode cX9_may 4 = .ok (.iload_n 1, 1) := by decide +kernel
theorem dX9_may_5 : decode cX9_may 5 = .ok (.iconst 2, 1) := by decide +kernel
theorem dX9_may_6 : decode cX9_may 6 = .ok (.if_icmp .le 6, 3) := by decide +kernel
theorem dX9_may_9 : decode cX9_may 9 = .ok (.bipush (-2), 2) := by decide +kernel
theorem dX9_may_11 : decode cX9_may 11 = .ok (.ireturn, 1) := by decide +kernel
theorem dX9_may_12 : decode cX9_may 12 = .ok (.aload_n 0, 1) := by decide +kernel
theorem dX9_may_13 : decode cX9_may 13 = .ok (.getfield 66, 3) := by decide +kernel
theorem dX9_may_16 : decode cX9_may 16 = .ok (.aload_n 0, 1) := by decide +kernel
theorem dX9_may_17 : decode cX9_may 17 = .ok (.getfield 26, 3) := by decide +kernel
theorem dX9_may_20 : decode cX9_may 20 = .ok (.aload_n 0, 1) := by decide +kernel
theorem dX9_may_21 : decode cX9_may 21 = .ok (.getfield 40, 3) := by decide +kernel
theorem dX9_may_24 : decode cX9_may 24 = .ok (.invokevirtual 236, 3) := by decide +kernel
theorem dX9_may_27 : decode cX9_may 27 = .ok (.iload_n 1, 1) := by decide +kernel
theorem dX9_may_28 : decode cX9_may 28 = .ok (.ifCond .ne 11, 3) := by decide +kernel
theorem dX9_may_31 : decode cX9_may 31 = .ok (.aload_n 0, 1) := by decide +kernel
theorem dX9_may_32 : decode cX9_may 32 = .ok (.getfield 66, 3) := by decide +kernel
theorem dX9_may_35 : decode cX9_may 35 = .ok (.getfield 240, 3) := by decide +kernel
theorem dX9_may_38 : decode cX9_may 38 = .ok (.ireturn, 1) := by decide +kernel
theorem dX9_may_39 : decode cX9_may 39 = .ok (.aload_n 0, 1) := by decide +kernel
theorem dX9_may_40 : decode cX9_may 40 = .ok (.getfield 66, 3) := by decide +kernel
theorem dX9_may_43 : decode cX9_may 43 = .ok (.getfield 240, 3) := by decide +kernel
theorem dX9_may_46 : decode cX9_may 46 = .ok (.ifCond .ne 6, 3) := by decide +kernel
theorem dX9_may_49 : decode cX9_may 49 = .ok (.bipush (-9), 2) := by decide +kernel
theorem dX9_may_51 : decode cX9_may 51 = .ok (.ireturn, 1) := by decide +kernel
theorem dX9_may_52 : decode cX9_may 52 = .ok (.iload_n 1, 1) := by decide +kernel
theorem dX9_may_53 : decode cX9_may 53 = .ok (.iconst 1, 1) := by decide +kernel
theorem dX9_may_54 : decode cX9_may 54 = .ok (.if_icmp .ne 24, 3) := by decide +kernel
theorem dX9_may_57 : decode cX9_may 57 = .ok (.aload_n 0, 1) := by decide +kernel
theorem dX9_may_58 : decode cX9_may 58 = .ok (.getfield 26, 3) := by decide +kernel
theorem dX9_may_61 : decode cX9_may 61 = .ok (.aload_n 0, 1) := by decide +kernel
theorem dX9_may_62 : decode cX9_may 62 = .ok (.getfield 66, 3) := by decide +kernel
theorem dX9_may_65 : decode cX9_may 65 = .ok (.getfield 243, 3) := by decide +kernel
theorem dX9_may_68 : decode cX9_may 68 = .ok (.iconst 0, 1) := by decide +kernel
theorem dX9_may_69 : decode cX9_may 69 = .ok (.invokestatic 152, 3) := by decide +kernel
theorem dX9_may_72 : decode cX9_may 72 = .ok (.invokevirtual 168, 3) := by decide +kernel
theorem dX9_may_75 : decode cX9_may 75 = .ok (.goto 7, 3) := by decide +kernel
theorem dX9_may_78 : decode cX9_may 78 = .ok (.aload_n 0, 1) := by decide +kernel
theorem dX9_may_79 : decode cX9_may 79 = .ok (.invokevirtual 246, 3) := by decide +kernel
theorem dX9_may_82 : decode cX9_may 82 = .ok (.ireturn, 1) := by decide +kernel
theorem dX9_tells_0 : decode cX9_tells 0 = .ok (.aload_n 0, 1) := by decide +kernel
theorem dX9_tells_1 : decode cX9_tells 1 = .ok (.getfield 66, 3) := by decide +kernel
theorem dX9_tells_4 : decode cX9_tells 4 = .ok (.aload_n 0, 1) := by decide +kernel
theorem dX9_tells_5 : decode cX9_tells 5 = .ok (.getfield 26, 3) := by decide +kernel
theorem dX9_tells_8 : decode cX9_tells 8 = .ok (.aload_n 0, 1) := by decide +kernel
theorem dX9_tells_9 : decode cX9_tells 9 = .ok (.getfield 40, 3) := by decide +kernel
theorem dX9_tells_12 : decode cX9_tells 12 = .ok (.invokevirtual 236, 3) := by decide +kernel
theorem dX9_tells_15 : decode cX9_tells 15 = .ok (.aload_n 0, 1) := by decide +kernel
theorem dX9_tells_16 : decode cX9_tells 16 = .ok (.getfield 66, 3) := by decide +kernel
theorem dX9_tells_19 : decode cX9_tells 19 = .ok (.getfield 240, 3) := by decide +kernel
theorem dX9_tells_22 : decode cX9_tells 22 = .ok (.ifCond .ne 6, 3) := by decide +kernel
theorem dX9_tells_25 : decode cX9_tells 25 = .ok (.bipush (-9), 2) := by decide +kernel
theorem dX9_tells_27 : decode cX9_tells 27 = .ok (.ireturn, 1) := by decide +kernel
theorem dX9_tells_28 : decode cX9_tells 28 = .ok (.bipush (-9), 2) := by decide +kernel
theorem dX9_tells_30 : decode cX9_tells 30 = .ok (.istore_n 2, 1) := by decide +kernel
theorem dX9_tells_31 : decode cX9_tells 31 = .ok (.bipush (-9), 2) := by decide +kernel
theorem dX9_tells_33 : decode cX9_tells 33 = .ok (.istore_n 3, 1) := by decide +kernel
theorem dX9_tells_34 : decode cX9_tells 34 = .ok (.iconst 0, 1) := by decide +kernel
theorem dX9_tells_35 : decode cX9_tells 35 = .ok (.istore 4, 2) := by decide +kernel
theorem dX9_tells_37 : decode cX9_tells 37 = .ok (.iload 4, 2) := by decide +kernel
theorem dX9_tells_39 : decode cX9_tells 39 = .ok (.aload_n 0, 1) := by decide +kernel
theorem dX9_tells_40 : decode cX9_tells 40 = .ok (.getfield 26, 3) := by decide +kernel
theorem dX9_tells_43 : decode cX9_tells 43 = .ok (.invokevirtual 128, 3) := by decide +kernel
theorem dX9_tells_46 : decode cX9_tells 46 = .ok (.if_icmp .ge 35, 3) := by decide +kernel
theorem dX9_tells_49 : decode cX9_tells 49 = .ok (.aload_n 0, 1) := by decide +kernel
theorem dX9_tells_50 : decode cX9_tells 50 = .ok (.iload 4, 2) := by decide +kernel
theorem dX9_tells_52 : decode cX9_tells 52 = .ok (.invokevirtual 249, 3) := by decide +kernel
theorem dX9_tells_55 : decode cX9_tells 55 = .ok (.istore 5, 2) := by decide +kernel
theorem dX9_tells_57 : decode cX9_tells 57 = .ok (.iload_n 2, 1) := by decide +kernel
theorem dX9_tells_58 : decode cX9_tells 58 = .ok (.bipush (-9), 2) := by decide +kernel
theorem dX9_tells_60 : decode cX9_tells 60 = .ok (.if_icmp .eq 9, 3) := by decide +kernel
theorem dX9_tells_63 : decode cX9_tells 63 = .ok (.iload 5, 2) := by decide +kernel
theorem dX9_tells_65 : decode cX9_tells 65 = .ok (.iload_n 3, 1) := by decide +kernel
theorem dX9_tells_66 : decode cX9_tells 66 = .ok (.if_icmp .ge 9, 3) := by decide +kernel
theorem dX9_tells_69 : decode cX9_tells 69 = .ok (.iload 4, 2) := by decide +kernel
theorem dX9_tells_71 : decode cX9_tells 71 = .ok (.istore_n 2, 1) := by decide +kernel
theorem dX9_tells_72 : decode cX9_tells 72 = .ok (.iload 5, 2) := by decide +kernel
theorem dX9_tells_74 : decode cX9_tells 74 = .ok (.istore_n 3, 1) := by decide +kernel
theorem dX9_tells_75 : decode cX9_tells 75 = .ok (.iinc 4 1, 3) := by decide +kernel
theorem dX9_tells_78 : decode cX9_tells 78 = .ok (.goto (-41), 3) := by decide +kernel
theorem dX9_tells_81 : decode cX9_tells 81 = .ok (.iload_n 1, 1) := by decide +kernel
theorem dX9_tells_82 : decode cX9_tells 82 = .ok (.ifCond .eq 7, 3) := by decide +kernel
theorem dX9_tells_85 : decode cX9_tells 85 = .ok (.iload_n 3, 1) := by decide +kernel
theorem dX9_tells_86 : decode cX9_tells 86 = .ok (.goto 4, 3) := by decide +kernel
theorem dX9_tells_89 : decode cX9_tells 89 = .ok (.iload_n 2, 1) := by decide +kernel
theorem dX9_tells_90 : decode cX9_tells 90 = .ok (.ireturn, 1) := by decide +kernel
theorem dX9_share_0 : decode cX9_share 0 = .ok (.aload_n 0, 1) := by decide +kernel
theorem dX9_share_1 : decode cX9_share 1 = .ok (.getfield 26, 3) := by decide +kernel
theorem dX9_share_4 : decode cX9_share 4 = .ok (.iload_n 1, 1) := by decide +kernel
theorem dX9_share_5 : decode cX9_share 5 = .ok (.invokevirtual 143, 3) := by decide +kernel
theorem dX9_share_8 : decode cX9_share 8 = .ok (.ifCond .ne 5, 3) := by decide +kernel
theorem dX9_share_11 : decode cX9_share 11 = .ok (.iconst (-1), 1) := by decide +kernel
theorem dX9_share_12 : decode cX9_share 12 = .ok (.ireturn, 1) := by decide +kernel
theorem dX9_share_13 : decode cX9_share 13 = .ok (.aload_n 0, 1) := by decide +kernel
theorem dX9_share_14 : decode cX9_share 14 = .ok (.getfield 26, 3) := by decide +kernel
theorem dX9_share_17 : decode cX9_share 17 = .ok (.iload_n 2, 1) := by decide +kernel
theorem dX9_share_18 : decode cX9_share 18 = .ok (.invokevirtual 193, 3) := by decide +kernel
theorem dX9_share_21 : decode cX9_share 21 = .ok (.istore 4, 2) := by decide +kernel
theorem dX9_share_23 : decode cX9_share 23 = .ok (.iload 4, 2) := by decide +kernel
theorem dX9_share_25 : decode cX9_share 25 = .ok (.iconst (-1), 1) := by decide +kernel
theorem dX9_share_26 : decode cX9_share 26 = .ok (.if_icmp .ne 6, 3) := by decide +kernel
theorem dX9_share_29 : decode cX9_share 29 = .ok (.bipush (-2), 2) := by decide +kernel
theorem dX9_share_31 : decode cX9_share 31 = .ok (.ireturn, 1) := by decide +kernel
theorem dX9_share_32 : decode cX9_share 32 = .ok (.iconst 1, 1) := by decide +kernel
theorem dX9_share_33 : decode cX9_share 33 = .ok (.iload_n 1, 1) := by decide +kernel
theorem dX9_share_34 : decode cX9_share 34 = .ok (.ishl, 1) := by decide +kernel
theorem dX9_share_35 : decode cX9_share 35 = .ok (.istore 5, 2) := by decide +kernel
theorem dX9_share_37 : decode cX9_share 37 = .ok (.iconst 0, 1) := by decide +kernel
theorem dX9_share_38 : decode cX9_share 38 = .ok (.istore 6, 2) := by decide +kernel
theorem dX9_share_40 : decode cX9_share 40 = .ok (.iconst 0, 1) := by decide +kernel
theorem dX9_share_41 : decode cX9_share 41 = .ok (.istore 7, 2) := by decide +kernel
theorem dX9_share_43 : decode cX9_share 43 = .ok (.iload 7, 2) := by decide +kernel
theorem dX9_share_45 : decode cX9_share 45 = .ok (.aload_n 0, 1) := by decide +kernel
theorem dX9_share_46 : decode cX9_share 46 = .ok (.getfield 26, 3) := by decide +kernel
theorem dX9_share_49 : decode cX9_share 49 = .ok (.invokevirtual 196, 3) := by decide +kernel
theorem dX9_share_52 : decode cX9_share 52 = .ok (.if_icmp .gt 62, 3) := by decide +kernel
theorem dX9_share_55 : decode cX9_share 55 = .ok (.iload 7, 2) := by decide +kernel
theorem dX9_share_57 : decode cX9_share 57 = .ok (.iload 5, 2) := by decide +kernel
theorem dX9_share_59 : decode cX9_share 59 = .ok (.iand, 1) := by decide +kernel
theorem dX9_share_60 : decode cX9_share 60 = .ok (.ifCond .ne 48, 3) := by decide +kernel
theorem dX9_share_63 : decode cX9_share 63 = .ok (.aload_n 0, 1) := by decide +kernel
theorem dX9_share_64 : decode cX9_share 64 = .ok (.getfield 33, 3) := by decide +kernel
theorem dX9_share_67 : decode cX9_share 67 = .ok (.iload 4, 2) := by decide +kernel
theorem dX9_share_69 : decode cX9_share 69 = .ok (.iload 7, 2) := by decide +kernel
theorem dX9_share_71 : decode cX9_share 71 = .ok (.iload 5, 2) := by decide +kernel
theorem dX9_share_73 : decode cX9_share 73 = .ok (.ior, 1) := by decide +kernel
theorem dX9_share_74 : decode cX9_share 74 = .ok (.invokevirtual 199, 3) := by decide +kernel
theorem dX9_share_77 : decode cX9_share 77 = .ok (.aload_n 0, 1) := by decide +kernel
theorem dX9_share_78 : decode cX9_share 78 = .ok (.getfield 33, 3) := by decide +kernel
theorem dX9_share_81 : decode cX9_share 81 = .ok (.iload 4, 2) := by decide +kernel
theorem dX9_share_83 : decode cX9_share 83 = .ok (.iload 7, 2) := by decide +kernel
theorem dX9_share_85 : decode cX9_share 85 = .ok (.invokevirtual 199, 3) := by decide +kernel
theorem dX9_share_88 : decode cX9_share 88 = .ok (.isub, 1) := by decide +kernel
theorem dX9_share_89 : decode cX9_share 89 = .ok (.istore 8, 2) := by decide +kernel
theorem dX9_share_91 : decode cX9_share 91 = .ok (.iload 6, 2) := by decide +kernel
theorem dX9_share_93 : decode cX9_share 93 = .ok (.iload 8, 2) := by decide +kernel
theorem dX9_share_95 : decode cX9_share 95 = .ok (.aload_n 0, 1) := by decide +kernel
theorem dX9_share_96 : decode cX9_share 96 = .ok (.iload 7, 2) := by decide +kernel
theorem dX9_share_98 : decode cX9_share 98 = .ok (.invokestatic 218, 3) := by decide +kernel
theorem dX9_share_101 : decode cX9_share 101 = .ok (.invokevirtual 252, 3) := by decide +kernel
theorem dX9_share_104 : decode cX9_share 104 = .ok (.imul, 1) := by decide +kernel
theorem dX9_share_105 : decode cX9_share 105 = .ok (.iadd, 1) := by decide +kernel
theorem dX9_share_106 : decode cX9_share 106 = .ok (.istore 6, 2) := by decide +kernel
theorem dX9_share_108 : decode cX9_share 108 = .ok (.iinc 7 1, 3) := by decide +kernel
theorem dX9_share_111 : decode cX9_share 111 = .ok (.goto (-68), 3) := by decide +kernel
theorem dX9_share_114 : decode cX9_share 114 = .ok (.iload 6, 2) := by decide +kernel
theorem dX9_share_116 : decode cX9_share 116 = .ok (.getstatic 255, 3) := by decide +kernel
theorem dX9_share_119 : decode cX9_share 119 = .ok (.aload_n 0, 1) := by decide +kernel
theorem dX9_share_120 : decode cX9_share 120 = .ok (.getfield 26, 3) := by decide +kernel
theorem dX9_share_123 : decode cX9_share 123 = .ok (.invokevirtual 128, 3) := by decide +kernel
theorem dX9_share_126 : decode cX9_share 126 = .ok (.invokestatic 152, 3) := by decide +kernel
theorem dX9_share_129 : decode cX9_share 129 = .ok (.iload_n 3, 1) := by decide +kernel
theorem dX9_share_130 : decode cX9_share 130 = .ok (.invokestatic 258, 3) := by decide +kernel
theorem dX9_share_133 : decode cX9_share 133 = .ok (.ireturn, 1) := by decide +kernel
theorem dX9_rests_0 : decode cX9_rests 0 = .ok (.aload_n 0, 1) := by decide +kernel
theorem dX9_rests_1 : decode cX9_rests 1 = .ok (.getfield 26, 3) := by decide +kernel
theorem dX9_rests_4 : decode cX9_rests 4 = .ok (.iload_n 1, 1) := by decide +kernel
theorem dX9_rests_5 : decode cX9_rests 5 = .ok (.invokevirtual 131, 3) := by decide +kernel
theorem dX9_rests_8 : decode cX9_rests 8 = .ok (.ifCond .eq 14, 3) := by decide +kernel
theorem dX9_rests_11 : decode cX9_rests 11 = .ok (.aload_n 0, 1) := by decide +kernel
theorem dX9_rests_12 : decode cX9_rests 12 = .ok (.getfield 26, 3) := by decide +kernel
theorem dX9_rests_15 : decode cX9_rests 15 = .ok (.iload_n 3, 1) := by decide +kernel
theorem dX9_rests_16 : decode cX9_rests 16 = .ok (.invokevirtual 131, 3) := by decide +kernel
theorem dX9_rests_19 : decode cX9_rests 19 = .ok (.ifCond .ne 5, 3) := by decide +kernel
theorem dX9_rests_22 : decode cX9_rests 22 = .ok (.iconst (-1), 1) := by decide +kernel
theorem dX9_rests_23 : decode cX9_rests 23 = .ok (.ireturn, 1) := by decide +kernel
theorem dX9_rests_24 : decode cX9_rests 24 = .ok (.iload_n 2, 1) := by decide +kernel
theorem dX9_rests_25 : decode cX9_rests 25 = .ok (.ifCond .lt 33, 3) := by decide +kernel
theorem dX9_rests_28 : decode cX9_rests 28 = .ok (.iload_n 2, 1) := by decide +kernel
theorem dX9_rests_29 : decode cX9_rests 29 = .ok (.aload_n 0, 1) := by decide +kernel
theorem dX9_rests_30 : decode cX9_rests 30 = .ok (.getfield 26, 3) := by decide +kernel
theorem dX9_rests_33 : decode cX9_rests 33 = .ok (.iload_n 1, 1) := by decide +kernel
theorem dX9_rests_34 : decode cX9_rests 34 = .ok (.invokevirtual 135, 3) := by decide +kernel
theorem dX9_rests_37 : decode cX9_rests 37 = .ok (.if_icmp .ge 21, 3) := by decide +kernel
theorem dX9_rests_40 : decode cX9_rests 40 = .ok (.iload 4, 2) := by decide +kernel
theorem dX9_rests_42 : decode cX9_rests 42 = .ok (.ifCond .lt 16, 3) := by decide +kernel
theorem dX9_rests_45 : decode cX9_rests 45 = .ok (.iload 4, 2) := by decide +kernel
theorem dX9_rests_47 : decode cX9_rests 47 = .ok (.aload_n 0, 1) := by decide +kernel
theorem dX9_rests_48 : decode cX9_rests 48 = .ok (.getfield 26, 3) := by decide +kernel
theorem dX9_rests_51 : decode cX9_rests 51 = .ok (.iload_n 3, 1) := by decide +kernel
theorem dX9_rests_52 : decode cX9_rests 52 = .ok (.invokevirtual 135, 3) := by decide +kernel
theorem dX9_rests_55 : decode cX9_rests 55 = .ok (.if_icmp .lt 6, 3) := by decide +kernel
theorem dX9_rests_58 : decode cX9_rests 58 = .ok (.bipush (-2), 2) := by decide +kernel
theorem dX9_rests_60 : decode cX9_rests 60 = .ok (.ireturn, 1) := by decide +kernel
theorem dX9_rests_61 : decode cX9_rests 61 = .ok (.iload 5, 2) := by decide +kernel
theorem dX9_rests_63 : decode cX9_rests 63 = .ok (.ifCond .lt 9, 3) := by decide +kernel
theorem dX9_rests_66 : decode cX9_rests 66 = .ok (.iload 5, 2) := by decide +kernel
theorem dX9_rests_68 : decode cX9_rests 68 = .ok (.iconst 1, 1) := by decide +kernel
theorem dX9_rests_69 : decode cX9_rests 69 = .ok (.if_icmp .le 6, 3) := by decide +kernel
theorem dX9_rests_72 : decode cX9_rests 72 = .ok (.bipush (-2), 2) := by decide +kernel
theorem dX9_rests_74 : decode cX9_rests 74 = .ok (.ireturn, 1) := by decide +kernel
theorem dX9_rests_75 : decode cX9_rests 75 = .ok (.iconst 0, 1) := by decide +kernel
theorem dX9_rests_76 : decode cX9_rests 76 = .ok (.istore 6, 2) := by decide +kernel
theorem dX9_rests_78 : decode cX9_rests 78 = .ok (.bipush (-9), 2) := by decide +kernel
theorem dX9_rests_80 : decode cX9_rests 80 = .ok (.istore 7, 2) := by decide +kernel
theorem dX9_rests_82 : decode cX9_rests 82 = .ok (.iconst 0, 1) := by decide +kernel
theorem dX9_rests_83 : decode cX9_rests 83 = .ok (.istore 8, 2) := by decide +kernel
theorem dX9_rests_85 : decode cX9_rests 85 = .ok (.iload 8, 2) := by decide +kernel
theorem dX9_rests_87 : decode cX9_rests 87 = .ok (.aload_n 0, 1) := by decide +kernel
theorem dX9_rests_88 : decode cX9_rests 88 = .ok (.getfield 26, 3) := by decide +kernel
theorem dX9_rests_91 : decode cX9_rests 91 = .ok (.invokevirtual 128, 3) := by decide +kernel
theorem dX9_rests_94 : decode cX9_rests 94 = .ok (.if_icmp .gt 75, 3) := by decide +kernel
theorem dX9_rests_97 : decode cX9_rests 97 = .ok (.iconst 0, 1) := by decide +kernel
theorem dX9_rests_98 : decode cX9_rests 98 = .ok (.istore 9, 2) := by decide +kernel
theorem dX9_rests_100 : decode cX9_rests 100 = .ok (.iload 9, 2) := by decide +kernel
theorem dX9_rests_102 : decode cX9_rests 102 = .ok (.aload_n 0, 1) := by decide +kernel
theorem dX9_rests_103 : decode cX9_rests 103 = .ok (.getfield 26, 3) := by decide +kernel
theorem dX9_rests_106 : decode cX9_rests 106 = .ok (.invokevirtual 128, 3) := by decide +kernel
theorem dX9_rests_109 : decode cX9_rests 109 = .ok (.if_icmp .gt 54, 3) := by decide +kernel
theorem dX9_rests_112 : decode cX9_rests 112 = .ok (.aload_n 0, 1) := by decide +kernel
theorem dX9_rests_113 : decode cX9_rests 113 = .ok (.iload 8, 2) := by decide +kernel
theorem dX9_rests_115 : decode cX9_rests 115 = .ok (.iload 9, 2) := by decide +kernel
theorem dX9_rests_117 : decode cX9_rests 117 = .ok (.iload_n 1, 1) := by decide +kernel
theorem dX9_rests_118 : decode cX9_rests 118 = .ok (.iload_n 2, 1) := by decide +kernel
theorem dX9_rests_119 : decode cX9_rests 119 = .ok (.invokevirtual 262, 3) := by decide +kernel
theorem dX9_rests_122 : decode cX9_rests 122 = .ok (.ifCond .eq 35, 3) := by decide +kernel
theorem dX9_rests_125 : decode cX9_rests 125 = .ok (.aload_n 0, 1) := by decide +kernel
theorem dX9_rests_126 : decode cX9_rests 126 = .ok (.iload 8, 2) := by decide +kernel
theorem dX9_rests_128 : decode cX9_rests 128 = .ok (.iload 9, 2) := by decide +kernel
theorem dX9_rests_130 : decode cX9_rests 130 = .ok (.iload_n 3, 1) := by decide +kernel
theorem dX9_rests_131 : decode cX9_rests 131 = .ok (.iload 4, 2) := by decide +kernel
theorem dX9_rests_133 : decode cX9_rests 133 = .ok (.invokevirtual 266, 3) := by decide +kernel
theorem dX9_rests_136 : decode cX9_rests 136 = .ok (.ifCond .eq 21, 3) := by decide +kernel
theorem dX9_rests_139 : decode cX9_rests 139 = .ok (.iload 6, 2) := by decide +kernel
theorem dX9_rests_141 : decode cX9_rests 141 = .ok (.ifCond .ne 13, 3) := by decide +kernel
theorem dX9_rests_144 : decode cX9_rests 144 = .ok (.bipush 10, 2) := by decide +kernel
theorem dX9_rests_146 : decode cX9_rests 146 = .ok (.iload 8, 2) := by decide +kernel
theorem dX9_rests_148 : decode cX9_rests 148 = .ok (.imul, 1) := by decide +kernel
theorem dX9_rests_149 : decode cX9_rests 149 = .ok (.iload 9, 2) := by decide +kernel
theorem dX9_rests_151 : decode cX9_rests 151 = .ok (.iadd, 1) := by decide +kernel
theorem dX9_rests_152 : decode cX9_rests 152 = .ok (.istore 7, 2) := by decide +kernel
theorem dX9_rests_154 : decode cX9_rests 154 = .ok (.iinc 6 1, 3) := by decide +kernel
theorem dX9_rests_157 : decode cX9_rests 157 = .ok (.iinc 9 1, 3) := by decide +kernel
theorem dX9_rests_160 : decode cX9_rests 160 = .ok (.goto (-60), 3) := by decide +kernel
theorem dX9_rests_163 : decode cX9_rests 163 = .ok (.iinc 8 1, 3) := by decide +kernel
theorem dX9_rests_166 : decode cX9_rests 166 = .ok (.goto (-81), 3) := by decide +kernel
theorem dX9_rests_169 : decode cX9_rests 169 = .ok (.iload 5, 2) := by decide +kernel
theorem dX9_rests_171 : decode cX9_rests 171 = .ok (.ifCond .ne 8, 3) := by decide +kernel
theorem dX9_rests_174 : decode cX9_rests 174 = .ok (.iload 6, 2) := by decide +kernel
theorem dX9_rests_176 : decode cX9_rests 176 = .ok (.goto 5, 3) := by decide +kernel
theorem dX9_rests_179 : decode cX9_rests 179 = .ok (.iload 7, 2) := by decide +kernel
theorem dX9_rests_181 : decode cX9_rests 181 = .ok (.ireturn, 1) := by decide +kernel
theorem dX9_weak_0 : decode cX9_weak 0 = .ok (.aload_n 0, 1) := by decide +kernel
theorem dX9_weak_1 : decode cX9_weak 1 = .ok (.getfield 26, 3) := by decide +kernel
theorem dX9_weak_4 : decode cX9_weak 4 = .ok (.iload_n 1, 1) := by decide +kernel
theorem dX9_weak_5 : decode cX9_weak 5 = .ok (.invokevirtual 143, 3) := by decide +kernel
theorem dX9_weak_8 : decode cX9_weak 8 = .ok (.ifCond .ne 5, 3) := by decide +kernel
theorem dX9_weak_11 : decode cX9_weak 11 = .ok (.iconst (-1), 1) := by decide +kernel
theorem dX9_weak_12 : decode cX9_weak 12 = .ok (.ireturn, 1) := by decide +kernel
theorem dX9_weak_13 : decode cX9_weak 13 = .ok (.aload_n 0, 1) := by decide +kernel
theorem dX9_weak_14 : decode cX9_weak 14 = .ok (.getfield 26, 3) := by decide +kernel
theorem dX9_weak_17 : decode cX9_weak 17 = .ok (.iload_n 3, 1) := by decide +kernel
theorem dX9_weak_18 : decode cX9_weak 18 = .ok (.invokevirtual 193, 3) := by decide +kernel
theorem dX9_weak_21 : decode cX9_weak 21 = .ok (.istore 6, 2) := by decide +kernel
theorem dX9_weak_23 : decode cX9_weak 23 = .ok (.iload_n 2, 1) := by decide +kernel
theorem dX9_weak_24 : decode cX9_weak 24 = .ok (.iconst 1, 1) := by decide +kernel
theorem dX9_weak_25 : decode cX9_weak 25 = .ok (.if_icmp .lt 27, 3) := by decide +kernel
theorem dX9_weak_28 : decode cX9_weak 28 = .ok (.iload_n 2, 1) := by decide +kernel
theorem dX9_weak_29 : decode cX9_weak 29 = .ok (.bipush 6, 2) := by decide +kernel
theorem dX9_weak_31 : decode cX9_weak 31 = .ok (.if_icmp .gt 21, 3) := by decide +kernel
theorem dX9_weak_34 : decode cX9_weak 34 = .ok (.iload 6, 2) := by decide +kernel
theorem dX9_weak_36 : decode cX9_weak 36 = .ok (.iconst (-1), 1) := by decide +kernel
theorem dX9_weak_37 : decode cX9_weak 37 = .ok (.if_icmp .eq 15, 3) := by decide +kernel
theorem dX9_weak_40 : decode cX9_weak 40 = .ok (.iload 4, 2) := by decide +kernel
theorem dX9_weak_42 : decode cX9_weak 42 = .ok (.ifCond .lt 10, 3) := by decide +kernel
theorem dX9_weak_45 : decode cX9_weak 45 = .ok (.iload 4, 2) := by decide +kernel
theorem dX9_weak_47 : decode cX9_weak 47 = .ok (.bipush 10, 2) := by decide +kernel
theorem dX9_weak_49 : decode cX9_weak 49 = .ok (.if_icmp .le 6, 3) := by decide +kernel
theorem dX9_weak_52 : decode cX9_weak 52 = .ok (.bipush (-2), 2) := by decide +kernel
theorem dX9_weak_54 : decode cX9_weak 54 = .ok (.ireturn, 1) := by decide +kernel
theorem dX9_weak_55 : decode cX9_weak 55 = .ok (.aload_n 0, 1) := by decide +kernel
theorem dX9_weak_56 : decode cX9_weak 56 = .ok (.iload_n 2, 1) := by decide +kernel
theorem dX9_weak_57 : decode cX9_weak 57 = .ok (.iload 4, 2) := by decide +kernel
theorem dX9_weak_59 : decode cX9_weak 59 = .ok (.invokevirtual 269, 3) := by decide +kernel
theorem dX9_weak_62 : decode cX9_weak 62 = .ok (.aload_n 0, 1) := by decide +kernel
theorem dX9_weak_63 : decode cX9_weak 63 = .ok (.getfield 47, 3) := by decide +kernel
theorem dX9_weak_66 : decode cX9_weak 66 = .ok (.getfield 112, 3) := by decide +kernel
theorem dX9_weak_69 : decode cX9_weak 69 = .ok (.istore 7, 2) := by decide +kernel
theorem dX9_weak_71 : decode cX9_weak 71 = .ok (.iconst 0, 1) := by decide +kernel
theorem dX9_weak_72 : decode cX9_weak 72 = .ok (.istore 8, 2) := by decide +kernel
theorem dX9_weak_74 : decode cX9_weak 74 = .ok (.iconst 0, 1) := by decide +kernel
theorem dX9_weak_75 : decode cX9_weak 75 = .ok (.istore 9, 2) := by decide +kernel
theorem dX9_weak_77 : decode cX9_weak 77 = .ok (.iload 9, 2) := by decide +kernel
theorem dX9_weak_79 : decode cX9_weak 79 = .ok (.iload_n 2, 1) := by decide +kernel
theorem dX9_weak_80 : decode cX9_weak 80 = .ok (.if_icmp .gt 42, 3) := by decide +kernel
theorem dX9_weak_83 : decode cX9_weak 83 = .ok (.iload 7, 2) := by decide +kernel
theorem dX9_weak_85 : decode cX9_weak 85 = .ok (.iload 6, 2) := by decide +kernel
theorem dX9_weak_87 : decode cX9_weak 87 = .ok (.if_icmp .ne 17, 3) := by decide +kernel
theorem dX9_weak_90 : decode cX9_weak 90 = .ok (.iload 8, 2) := by decide +kernel
theorem dX9_weak_92 : decode cX9_weak 92 = .ok (.aload_n 0, 1) := by decide +kernel
theorem dX9_weak_93 : decode cX9_weak 93 = .ok (.getfield 74, 3) := by decide +kernel
theorem dX9_weak_96 : decode cX9_weak 96 = .ok (.iload 9, 2) := by decide +kernel
theorem dX9_weak_98 : decode cX9_weak 98 = .ok (.invokestatic 152, 3) := by decide +kernel
theorem dX9_weak_101 : decode cX9_weak 101 = .ok (.iadd, 1) := by decide +kernel
theorem dX9_weak_102 : decode cX9_weak 102 = .ok (.istore 8, 2) := by decide +kernel
theorem dX9_weak_104 : decode cX9_weak 104 = .ok (.aload_n 0, 1) := by decide +kernel
theorem dX9_weak_105 : decode cX9_weak 105 = .ok (.getfield 26, 3) := by decide +kernel
theorem dX9_weak_108 : decode cX9_weak 108 = .ok (.iload 7, 2) := by decide +kernel
theorem dX9_weak_110 : decode cX9_weak 110 = .ok (.iload_n 1, 1) := by decide +kernel
theorem dX9_weak_111 : decode cX9_weak 111 = .ok (.invokevirtual 165, 3) := by decide +kernel
theorem dX9_weak_114 : decode cX9_weak 114 = .ok (.istore 7, 2) := by decide +kernel
theorem dX9_weak_116 : decode cX9_weak 116 = .ok (.iinc 9 1, 3) := by decide +kernel
theorem dX9_weak_119 : decode cX9_weak 119 = .ok (.goto (-42), 3) := by decide +kernel
theorem dX9_weak_122 : decode cX9_weak 122 = .ok (.iload 8, 2) := by decide +kernel
theorem dX9_weak_124 : decode cX9_weak 124 = .ok (.getstatic 272, 3) := by decide +kernel
theorem dX9_weak_127 : decode cX9_weak 127 = .ok (.iload_n 2, 1) := by decide +kernel
theorem dX9_weak_128 : decode cX9_weak 128 = .ok (.invokestatic 152, 3) := by decide +kernel
theorem dX9_weak_131 : decode cX9_weak 131 = .ok (.iload 5, 2) := by decide +kernel
theorem dX9_weak_133 : decode cX9_weak 133 = .ok (.invokestatic 258, 3) := by decide +kernel
theorem dX9_weak_136 : decode cX9_weak 136 = .ok (.ireturn, 1) := by decide +kernel
theorem dX9_seed_0 : decode cX9_seed 0 = .ok (.aload_n 0, 1) := by decide +kernel
theorem dX9_seed_1 : decode cX9_seed 1 = .ok (.getfield 275, 3) := by decide +kernel
theorem dX9_seed_4 : decode cX9_seed 4 = .ok (.lstore_n 3, 1) := by decide +kernel
theorem dX9_seed_5 : decode cX9_seed 5 = .ok (.aload_n 0, 1) := by decide +kernel
theorem dX9_seed_6 : decode cX9_seed 6 = .ok (.lload_n 1, 1) := by decide +kernel
theorem dX9_seed_7 : decode cX9_seed 7 = .ok (.putfield 275, 3) := by decide +kernel
theorem dX9_seed_10 : decode cX9_seed 10 = .ok (.lload_n 3, 1) := by decide +kernel
theorem dX9_seed_11 : decode cX9_seed 11 = .ok (.lreturn, 1) := by decide +kernel
theorem dX9_evenings_0 : decode cX9_evenings 0 = .ok (.iload_n 1, 1) := by decide +kernel
theorem dX9_evenings_1 : decode cX9_evenings 1 = .ok (.iconst 1, 1) := by decide +kernel
theorem dX9_evenings_2 : decode cX9_evenings 2 = .ok (.if_icmp .lt 9, 3) := by decide +kernel
theorem dX9_evenings_5 : decode cX9_evenings 5 = .ok (.iload_n 1, 1) := by decide +kernel
theorem dX9_evenings_6 : decode cX9_evenings 6 = .ok (.bipush 30, 2) := by decide +kernel
theorem dX9_evenings_8 : decode cX9_evenings 8 = .ok (.if_icmp .le 6, 3) := by decide +kernel
theorem dX9_evenings_11 : decode cX9_evenings 11 = .ok (.bipush (-2), 2) := by decide +kernel
theorem dX9_evenings_13 : decode cX9_evenings 13 = .ok (.ireturn, 1) := by decide +kernel
theorem dX9_evenings_14 : decode cX9_evenings 14 = .ok (.aload_n 0, 1) := by decide +kernel
theorem dX9_evenings_15 : decode cX9_evenings 15 = .ok (.getfield 47, 3) := by decide +kernel
theorem dX9_evenings_18 : decode cX9_evenings 18 = .ok (.getfield 112, 3) := by decide +kernel
theorem dX9_evenings_21 : decode cX9_evenings 21 = .ok (.istore_n 2, 1) := by decide +kernel
theorem dX9_evenings_22 : decode cX9_evenings 22 = .ok (.iconst 0, 1) := by decide +kernel
theorem dX9_evenings_23 : decode cX9_evenings 23 = .ok (.istore_n 3, 1) := by decide +kernel
theorem dX9_evenings_24 : decode cX9_evenings 24 = .ok (.iconst 0, 1) := by decide +kernel
theorem dX9_evenings_25 : decode cX9_evenings 25 = .ok (.istore 4, 2) := by decide +kernel
theorem dX9_evenings_27 : decode cX9_evenings 27 = .ok (.iload 4, 2) := by decide +kernel
theorem dX9_evenings_29 : decode cX9_evenings 29 = .ok (.iload_n 1, 1) := by decide +kernel
theorem dX9_evenings_30 : decode cX9_evenings 30 = .ok (.if_icmp .ge 76, 3) := by decide +kernel
theorem dX9_evenings_33 : decode cX9_evenings 33 = .ok (.aload_n 0, 1) := by decide +kernel
theorem dX9_evenings_34 : decode cX9_evenings 34 = .ok (.aload_n 0, 1) := by decide +kernel
theorem dX9_evenings_35 : decode cX9_evenings 35 = .ok (.getfield 275, 3) := by decide +kernel
theorem dX9_evenings_38 : decode cX9_evenings 38 = .ok (.ldc2_w 279, 3) := by decide +kernel
theorem dX9_evenings_41 : decode cX9_evenings 41 = .ok (.lmul, 1) := by decide +kernel
theorem dX9_evenings_42 : decode cX9_evenings 42 = .ok (.ldc2_w 281, 3) := by decide +kernel
theorem dX9_evenings_45 : decode cX9_evenings 45 = .ok (.ladd, 1) := by decide +kernel
theorem dX9_evenings_46 : decode cX9_evenings 46 = .ok (.putfield 275, 3) := by decide +kernel
theorem dX9_evenings_49 : decode cX9_evenings 49 = .ok (.aload_n 0, 1) := by decide +kernel
theorem dX9_evenings_50 : decode cX9_evenings 50 = .ok (.getfield 275, 3) := by decide +kernel
theorem dX9_evenings_53 : decode cX9_evenings 53 = .ok (.bipush 33, 2) := by decide +kernel
theorem dX9_evenings_55 : decode cX9_evenings 55 = .ok (.lushr, 1) := by decide +kernel
theorem dX9_evenings_56 : decode cX9_evenings 56 = .ok (.ldc2_w 283, 3) := by decide +kernel
theorem dX9_evenings_59 : decode cX9_evenings 59 = .ok (.lrem, 1) := by decide +kernel
theorem dX9_evenings_60 : decode cX9_evenings 60 = .ok (.l2i, 1) := by decide +kernel
theorem dX9_evenings_61 : decode cX9_evenings 61 = .ok (.istore 5, 2) := by decide +kernel
theorem dX9_evenings_63 : decode cX9_evenings 63 = .ok (.aload_n 0, 1) := by decide +kernel
theorem dX9_evenings_64 : decode cX9_evenings 64 = .ok (.getfield 26, 3) := by decide +kernel
theorem dX9_evenings_67 : decode cX9_evenings 67 = .ok (.iload 5, 2) := by decide +kernel
theorem dX9_evenings_69 : decode cX9_evenings 69 = .ok (.invokevirtual 143, 3) := by decide +kernel
theorem dX9_evenings_72 : decode cX9_evenings 72 = .ok (.ifCond .eq 14, 3) := by decide +kernel
theorem dX9_evenings_75 : decode cX9_evenings 75 = .ok (.aload_n 0, 1) := by decide +kernel
theorem dX9_evenings_76 : decode cX9_evenings 76 = .ok (.getfield 26, 3) := by decide +kernel
theorem dX9_evenings_79 : decode cX9_evenings 79 = .ok (.iload_n 2, 1) := by decide +kernel
theorem dX9_evenings_80 : decode cX9_evenings 80 = .ok (.iload 5, 2) := by decide +kernel
theorem dX9_evenings_82 : decode cX9_evenings 82 = .ok (.invokevirtual 165, 3) := by decide +kernel
theorem dX9_evenings_85 : decode cX9_evenings 85 = .ok (.istore_n 2, 1) := by decide +kernel
theorem dX9_evenings_86 : decode cX9_evenings 86 = .ok (.iload_n 3, 1) := by decide +kernel
theorem dX9_evenings_87 : decode cX9_evenings 87 = .ok (.aload_n 0, 1) := by decide +kernel
theorem dX9_evenings_88 : decode cX9_evenings 88 = .ok (.getfield 26, 3) := by decide +kernel
theorem dX9_evenings_91 : decode cX9_evenings 91 = .ok (.iload_n 2, 1) := by decide +kernel
theorem dX9_evenings_92 : decode cX9_evenings 92 = .ok (.invokevirtual 285, 3) := by decide +kernel
theorem dX9_evenings_95 : decode cX9_evenings 95 = .ok (.invokestatic 218, 3) := by decide +kernel
theorem dX9_evenings_98 : decode cX9_evenings 98 = .ok (.iadd, 1) := by decide +kernel
theorem dX9_evenings_99 : decode cX9_evenings 99 = .ok (.istore_n 3, 1) := by decide +kernel
theorem dX9_evenings_100 : decode cX9_evenings 100 = .ok (.iinc 4 1, 3) := by decide +kernel
theorem dX9_evenings_103 : decode cX9_evenings 103 = .ok (.goto (-76), 3) := by decide +kernel
theorem dX9_evenings_106 : decode cX9_evenings 106 = .ok (.iload_n 3, 1) := by decide +kernel
theorem dX9_evenings_107 : decode cX9_evenings 107 = .ok (.ireturn, 1) := by decide +kernel
theorem dX9_keep_0 : decode cX9_keep 0 = .ok (.iload_n 1, 1) := by decide +kernel
theorem dX9_keep_1 : decode cX9_keep 1 = .ok (.ifCond .lt 8, 3) := by decide +kernel
theorem dX9_keep_4 : decode cX9_keep 4 = .ok (.iload_n 1, 1) := by decide +kernel
theorem dX9_keep_5 : decode cX9_keep 5 = .ok (.iconst 2, 1) := by decide +kernel
theorem dX9_keep_6 : decode cX9_keep 6 = .ok (.if_icmp .lt 5, 3) := by decide +kernel
theorem dX9_keep_9 : decode cX9_keep 9 = .ok (.iconst (-1), 1) := by decide +kernel
theorem dX9_keep_10 : decode cX9_keep 10 = .ok (.ireturn, 1) := by decide +kernel
theorem dX9_keep_11 : decode cX9_keep 11 = .ok (.aload_n 0, 1) := by decide +kernel
theorem dX9_keep_12 : decode cX9_keep 12 = .ok (.getfield 60, 3) := by decide +kernel
theorem dX9_keep_15 : decode cX9_keep 15 = .ok (.iload_n 1, 1) := by decide +kernel
theorem dX9_keep_16 : decode cX9_keep 16 = .ok (.aload_n 0, 1) := by decide +kernel
theorem dX9_keep_17 : decode cX9_keep 17 = .ok (.getfield 47, 3) := by decide +kernel
theorem dX9_keep_20 : decode cX9_keep 20 = .ok (.invokevirtual 288, 3) := by decide +kernel
theorem dX9_keep_23 : decode cX9_keep 23 = .ok (.aload_n 0, 1) := by decide +kernel
theorem dX9_keep_24 : decode cX9_keep 24 = .ok (.getfield 47, 3) := by decide +kernel
theorem dX9_keep_27 : decode cX9_keep 27 = .ok (.getfield 119, 3) := by decide +kernel
theorem dX9_keep_30 : decode cX9_keep 30 = .ok (.ireturn, 1) := by decide +kernel
theorem dX9_again_0 : decode cX9_again 0 = .ok (.iload_n 1, 1) := by decide +kernel
theorem dX9_again_1 : decode cX9_again 1 = .ok (.ifCond .lt 8, 3) := by decide +kernel
theorem dX9_again_4 : decode cX9_again 4 = .ok (.iload_n 1, 1) := by decide +kernel
theorem dX9_again_5 : decode cX9_again 5 = .ok (.iconst 2, 1) := by decide +kernel
theorem dX9_again_6 : decode cX9_again 6 = .ok (.if_icmp .lt 5, 3) := by decide +kernel
theorem dX9_again_9 : decode cX9_again 9 = .ok (.iconst (-1), 1) := by decide +kernel
theorem dX9_again_10 : decode cX9_again 10 = .ok (.ireturn, 1) := by decide +kernel
theorem dX9_again_11 : decode cX9_again 11 = .ok (.aload_n 0, 1) := by decide +kernel
theorem dX9_again_12 : decode cX9_again 12 = .ok (.getfield 60, 3) := by decide +kernel
theorem dX9_again_15 : decode cX9_again 15 = .ok (.iload_n 1, 1) := by decide +kernel
theorem dX9_again_16 : decode cX9_again 16 = .ok (.invokevirtual 291, 3) := by decide +kernel
theorem dX9_again_19 : decode cX9_again 19 = .ok (.ifCond .ne 6, 3) := by decide +kernel
theorem dX9_again_22 : decode cX9_again 22 = .ok (.bipush (-3), 2) := by decide +kernel
theorem dX9_again_24 : decode cX9_again 24 = .ok (.ireturn, 1) := by decide +kernel
theorem dX9_again_25 : decode cX9_again 25 = .ok (.aload_n 0, 1) := by decide +kernel
theorem dX9_again_26 : decode cX9_again 26 = .ok (.getfield 60, 3) := by decide +kernel
theorem dX9_again_29 : decode cX9_again 29 = .ok (.iload_n 1, 1) := by decide +kernel
theorem dX9_again_30 : decode cX9_again 30 = .ok (.aload_n 0, 1) := by decide +kernel
theorem dX9_again_31 : decode cX9_again 31 = .ok (.getfield 47, 3) := by decide +kernel
theorem dX9_again_34 : decode cX9_again 34 = .ok (.invokevirtual 174, 3) := by decide +kernel
theorem dX9_again_37 : decode cX9_again 37 = .ok (.aload_n 0, 1) := by decide +kernel
theorem dX9_again_38 : decode cX9_again 38 = .ok (.iconst 0, 1) := by decide +kernel
theorem dX9_again_39 : decode cX9_again 39 = .ok (.putfield 121, 3) := by decide +kernel
theorem dX9_again_42 : decode cX9_again 42 = .ok (.aload_n 0, 1) := by decide +kernel
theorem dX9_again_43 : decode cX9_again 43 = .ok (.getfield 47, 3) := by decide +kernel
theorem dX9_again_46 : decode cX9_again 46 = .ok (.getfield 119, 3) := by decide +kernel
theorem dX9_again_49 : decode cX9_again 49 = .ok (.ireturn, 1) := by decide +kernel
theorem dX9_count_0 : decode cX9_count 0 = .ok (.iload_n 1, 1) := by decide +kernel
theorem dX9_count_1 : decode cX9_count 1 = .ok (.tableswitch 141 0 8 #[51, 59, 67, 75, 90, 105, 120, 128, 133], 51) := by decide +kernel
theorem dX9_count_52 : decode cX9_count 52 = .ok (.aload_n 0, 1) := by decide +kernel
theorem dX9_count_53 : decode cX9_count 53 = .ok (.getfield 10, 3) := by decide +kernel
theorem dX9_count_56 : decode cX9_count 56 = .ok (.invokevirtual 94, 3) := by decide +kernel
theorem dX9_count_59 : decode cX9_count 59 = .ok (.ireturn, 1) := by decide +kernel
theorem dX9_count_60 : decode cX9_count 60 = .ok (.aload_n 0, 1) := by decide +kernel
theorem dX9_count_61 : decode cX9_count 61 = .ok (.getfield 26, 3) := by decide +kernel
theorem dX9_count_64 : decode cX9_count 64 = .ok (.invokevirtual 125, 3) := by decide +kernel
theorem dX9_count_67 : decode cX9_count 67 = .ok (.ireturn, 1) := by decide +kernel
theorem dX9_count_68 : decode cX9_count 68 = .ok (.aload_n 0, 1) := by decide +kernel
theorem dX9_count_69 : decode cX9_count 69 = .ok (.getfield 26, 3) := by decide +kernel
theorem dX9_count_72 : decode cX9_count 72 = .ok (.invokevirtual 128, 3) := by decide +kernel
theorem dX9_count_75 : decode cX9_count 75 = .ok (.ireturn, 1) := by decide +kernel
theorem dX9_count_76 : decode cX9_count 76 = .ok (.aload_n 0, 1) := by decide +kernel
theorem dX9_count_77 : decode cX9_count 77 = .ok (.getfield 26, 3) := by decide +kernel
theorem dX9_count_80 : decode cX9_count 80 = .ok (.aload_n 0, 1) := by decide +kernel
theorem dX9_count_81 : decode cX9_count 81 = .ok (.getfield 47, 3) := by decide +kernel
theorem dX9_count_84 : decode cX9_count 84 = .ok (.getfield 112, 3) := by decide +kernel
theorem dX9_count_87 : decode cX9_count 87 = .ok (.invokevirtual 168, 3) := by decide +kernel
theorem dX9_count_90 : decode cX9_count 90 = .ok (.ireturn, 1) := by decide +kernel
theorem dX9_count_91 : decode cX9_count 91 = .ok (.aload_n 0, 1) := by decide +kernel
theorem dX9_count_92 : decode cX9_count 92 = .ok (.getfield 26, 3) := by decide +kernel
theorem dX9_count_95 : decode cX9_count 95 = .ok (.aload_n 0, 1) := by decide +kernel
theorem dX9_count_96 : decode cX9_count 96 = .ok (.getfield 47, 3) := by decide +kernel
theorem dX9_count_99 : decode cX9_count 99 = .ok (.getfield 116, 3) := by decide +kernel
theorem dX9_count_102 : decode cX9_count 102 = .ok (.invokevirtual 168, 3) := by decide +kernel
theorem dX9_count_105 : decode cX9_count 105 = .ok (.ireturn, 1) := by decide +kernel
theorem dX9_count_106 : decode cX9_count 106 = .ok (.aload_n 0, 1) := by decide +kernel
theorem dX9_count_107 : decode cX9_count 107 = .ok (.getfield 26, 3) := by decide +kernel
theorem dX9_count_110 : decode cX9_count 110 = .ok (.aload_n 0, 1) := by decide +kernel
theorem dX9_count_111 : decode cX9_count 111 = .ok (.getfield 47, 3) := by decide +kernel
theorem dX9_count_114 : decode cX9_count 114 = .ok (.getfield 112, 3) := by decide +kernel
theorem dX9_count_117 : decode cX9_count 117 = .ok (.invokevirtual 285, 3) := by decide +kernel
theorem dX9_count_120 : decode cX9_count 120 = .ok (.ireturn, 1) := by decide +kernel
theorem dX9_count_121 : decode cX9_count 121 = .ok (.aload_n 0, 1) := by decide +kernel
theorem dX9_count_122 : decode cX9_count 122 = .ok (.getfield 47, 3) := by decide +kernel
theorem dX9_count_125 : decode cX9_count 125 = .ok (.getfield 119, 3) := by decide +kernel
theorem dX9_count_128 : decode cX9_count 128 = .ok (.ireturn, 1) := by decide +kernel
theorem dX9_count_129 : decode cX9_count 129 = .ok (.aload_n 0, 1) := by decide +kernel
theorem dX9_count_130 : decode cX9_count 130 = .ok (.getfield 121, 3) := by decide +kernel
theorem dX9_count_133 : decode cX9_count 133 = .ok (.ireturn, 1) := by decide +kernel
theorem dX9_count_134 : decode cX9_count 134 = .ok (.aload_n 0, 1) := by decide +kernel
theorem dX9_count_135 : decode cX9_count 135 = .ok (.getfield 66, 3) := by decide +kernel
theorem dX9_count_138 : decode cX9_count 138 = .ok (.getfield 229, 3) := by decide +kernel
theorem dX9_count_141 : decode cX9_count 141 = .ok (.ireturn, 1) := by decide +kernel
theorem dX9_count_142 : decode cX9_count 142 = .ok (.bipush (-2), 2) := by decide +kernel
theorem dX9_count_144 : decode cX9_count 144 = .ok (.ireturn, 1) := by decide +kernel
theorem dX9_rememberAct_0 : decode cX9_rememberAct 0 = .ok (.aload_n 0, 1) := by decide +kernel
theorem dX9_rememberAct_1 : decode cX9_rememberAct 1 = .ok (.getfield 121, 3) := by decide +kernel
theorem dX9_rememberAct_4 : decode cX9_rememberAct 4 = .ok (.bipush 14, 2) := by decide +kernel
theorem dX9_rememberAct_6 : decode cX9_rememberAct 6 = .ok (.if_icmp .ne 13, 3) := by decide +kernel
theorem dX9_rememberAct_9 : decode cX9_rememberAct 9 = .ok (.aload_n 0, 1) := by decide +kernel
theorem dX9_rememberAct_10 : decode cX9_rememberAct 10 = .ok (.getfield 56, 3) := by decide +kernel
theorem dX9_rememberAct_13 : decode cX9_rememberAct 13 = .ok (.invokevirtual 294, 3) := by decide +kernel
theorem dX9_rememberAct_16 : decode cX9_rememberAct 16 = .ok (.goto 13, 3) := by decide +kernel
theorem dX9_rememberAct_19 : decode cX9_rememberAct 19 = .ok (.aload_n 0, 1) := by decide +kernel
theorem dX9_rememberAct_20 : decode cX9_rememberAct 20 = .ok (.dup, 1) := by decide +kernel
theorem dX9_rememberAct_21 : decode cX9_rememberAct 21 = .ok (.getfield 121, 3) := by decide +kernel
theorem dX9_rememberAct_24 : decode cX9_rememberAct 24 = .ok (.iconst 1, 1) := by decide +kernel
theorem dX9_rememberAct_25 : decode cX9_rememberAct 25 = .ok (.iadd, 1) := by decide +kernel
theorem dX9_rememberAct_26 : decode cX9_rememberAct 26 = .ok (.putfield 121, 3) := by decide +kernel
theorem dX9_rememberAct_29 : decode cX9_rememberAct 29 = .ok (.aload_n 0, 1) := by decide +kernel
theorem dX9_rememberAct_30 : decode cX9_rememberAct 30 = .ok (.getfield 56, 3) := by decide +kernel
theorem dX9_rememberAct_33 : decode cX9_rememberAct 33 = .ok (.aload_n 0, 1) := by decide +kernel
theorem dX9_rememberAct_34 : decode cX9_rememberAct 34 = .ok (.getfield 121, 3) := by decide +kernel
theorem dX9_rememberAct_37 : decode cX9_rememberAct 37 = .ok (.iconst 1, 1) := by decide +kernel
theorem dX9_rememberAct_38 : decode cX9_rememberAct 38 = .ok (.isub, 1) := by decide +kernel
theorem dX9_rememberAct_39 : decode cX9_rememberAct 39 = .ok (.aload_n 0, 1) := by decide +kernel
theorem dX9_rememberAct_40 : decode cX9_rememberAct 40 = .ok (.getfield 47, 3) := by decide +kernel
theorem dX9_rememberAct_43 : decode cX9_rememberAct 43 = .ok (.invokevirtual 288, 3) := by decide +kernel
theorem dX9_rememberAct_46 : decode cX9_rememberAct 46 = .ok (.return_, 1) := by decide +kernel
theorem dX9_firstShortest_0 : decode cX9_firstShortest 0 = .ok (.iload_n 1, 1) := by decide +kernel
theorem dX9_firstShortest_1 : decode cX9_firstShortest 1 = .ok (.bipush 9, 2) := by decide +kernel
theorem dX9_firstShortest_3 : decode cX9_firstShortest 3 = .ok (.if_icmp .le 6, 3) := by decide +kernel
theorem dX9_firstShortest_6 : decode cX9_firstShortest 6 = .ok (.bipush (-9), 2) := by decide +kernel
theorem dX9_firstShortest_8 : decode cX9_firstShortest 8 = .ok (.ireturn, 1) := by decide +kernel
theorem dX9_firstShortest_9 : decode cX9_firstShortest 9 = .ok (.aload_n 0, 1) := by decide +kernel
theorem dX9_firstShortest_10 : decode cX9_firstShortest 10 = .ok (.getfield 47, 3) := by decide +kernel
theorem dX9_firstShortest_13 : decode cX9_firstShortest 13 = .ok (.getfield 112, 3) := by decide +kernel
theorem dX9_firstShortest_16 : decode cX9_firstShortest 16 = .ok (.istore_n 2, 1) := by decide +kernel
theorem dX9_firstShortest_17 : decode cX9_firstShortest 17 = .ok (.iconst 0, 1) := by decide +kernel
theorem dX9_firstShortest_18 : decode cX9_firstShortest 18 = .ok (.istore_n 3, 1) := by decide +kernel
theorem dX9_firstShortest_19 : decode cX9_firstShortest 19 = .ok (.iload_n 1, 1) := by decide +kernel
theorem dX9_firstShortest_20 : decode cX9_firstShortest 20 = .ok (.istore 4, 2) := by decide +kernel
theorem dX9_firstShortest_22 : decode cX9_firstShortest 22 = .ok (.iload 4, 2) := by decide +kernel
theorem dX9_firstShortest_24 : decode cX9_firstShortest 24 = .ok (.ifCond .le 41, 3) := by decide +kernel
theorem dX9_firstShortest_27 : decode cX9_firstShortest 27 = .ok (.aload_n 0, 1) := by decide +kernel
theorem dX9_firstShortest_28 : decode cX9_firstShortest 28 = .ok (.iload_n 2, 1) := by decide +kernel
theorem dX9_firstShortest_29 : decode cX9_firstShortest 29 = .ok (.iload 4, 2) := by decide +kernel
theorem dX9_firstShortest_31 : decode cX9_firstShortest 31 = .ok (.iconst 1, 1) := by decide +kernel
theorem dX9_firstShortest_32 : decode cX9_firstShortest 32 = .ok (.isub, 1) := by decide +kernel
theorem dX9_firstShortest_33 : decode cX9_firstShortest 33 = .ok (.invokevirtual 297, 3) := by decide +kernel
theorem dX9_firstShortest_36 : decode cX9_firstShortest 36 = .ok (.istore 5, 2) := by decide +kernel
theorem dX9_firstShortest_38 : decode cX9_firstShortest 38 = .ok (.iload_n 3, 1) := by decide +kernel
theorem dX9_firstShortest_39 : decode cX9_firstShortest 39 = .ok (.bipush 10, 2) := by decide +kernel
theorem dX9_firstShortest_41 : decode cX9_firstShortest 41 = .ok (.imul, 1) := by decide +kernel
theorem dX9_firstShortest_42 : decode cX9_firstShortest 42 = .ok (.iload 5, 2) := by decide +kernel
theorem dX9_firstShortest_44 : decode cX9_firstShortest 44 = .ok (.iadd, 1) := by decide +kernel
theorem dX9_firstShortest_45 : decode cX9_firstShortest 45 = .ok (.iconst 1, 1) := by decide +kernel
theorem dX9_firstShortest_46 : decode cX9_firstShortest 46 = .ok (.iadd, 1) := by decide +kernel
theorem dX9_firstShortest_47 : decode cX9_firstShortest 47 = .ok (.istore_n 3, 1) := by decide +kernel
theorem dX9_firstShortest_48 : decode cX9_firstShortest 48 = .ok (.aload_n 0, 1) := by decide +kernel
theorem dX9_firstShortest_49 : decode cX9_firstShortest 49 = .ok (.getfield 26, 3) := by decide +kernel
theorem dX9_firstShortest_52 : decode cX9_firstShortest 52 = .ok (.iload_n 2, 1) := by decide +kernel
theorem dX9_firstShortest_53 : decode cX9_firstShortest 53 = .ok (.iload 5, 2) := by decide +kernel
theorem dX9_firstShortest_55 : decode cX9_firstShortest 55 = .ok (.invokevirtual 165, 3) := by decide +kernel
theorem dX9_firstShortest_58 : decode cX9_firstShortest 58 = .ok (.istore_n 2, 1) := by decide +kernel
theorem dX9_firstShortest_59 : decode cX9_firstShortest 59 = .ok (.iinc 4 (-1), 3) := by decide +kernel
theorem dX9_firstShortest_62 : decode cX9_firstShortest 62 = .ok (.goto (-40), 3) := by decide +kernel
theorem dX9_firstShortest_65 : decode cX9_firstShortest 65 = .ok (.iload_n 3, 1) := by decide +kernel
theorem dX9_firstShortest_66 : decode cX9_firstShortest 66 = .ok (.ireturn, 1) := by decide +kernel
theorem dX9_firstNearer_0 : decode cX9_firstNearer 0 = .ok (.iconst 0, 1) := by decide +kernel
theorem dX9_firstNearer_1 : decode cX9_firstNearer 1 = .ok (.istore_n 3, 1) := by decide +kernel
theorem dX9_firstNearer_2 : decode cX9_firstNearer 2 = .ok (.iload_n 3, 1) := by decide +kernel
theorem dX9_firstNearer_3 : decode cX9_firstNearer 3 = .ok (.aload_n 0, 1) := by decide +kernel
theorem dX9_firstNearer_4 : decode cX9_firstNearer 4 = .ok (.getfield 26, 3) := by decide +kernel
theorem dX9_firstNearer_7 : decode cX9_firstNearer 7 = .ok (.invokevirtual 128, 3) := by decide +kernel
theorem dX9_firstNearer_10 : decode cX9_firstNearer 10 = .ok (.if_icmp .ge 31, 3) := by decide +kernel
theorem dX9_firstNearer_13 : decode cX9_firstNearer 13 = .ok (.aload_n 0, 1) := by decide +kernel
theorem dX9_firstNearer_14 : decode cX9_firstNearer 14 = .ok (.getfield 33, 3) := by decide +kernel
theorem dX9_firstNearer_17 : decode cX9_firstNearer 17 = .ok (.aload_n 0, 1) := by decide +kernel
theorem dX9_firstNearer_18 : decode cX9_firstNearer 18 = .ok (.getfield 26, 3) := by decide +kernel
theorem dX9_firstNearer_21 : decode cX9_firstNearer 21 = .ok (.iload_n 1, 1) := by decide +kernel
theorem dX9_firstNearer_22 : decode cX9_firstNearer 22 = .ok (.iload_n 3, 1) := by decide +kernel
theorem dX9_firstNearer_23 : decode cX9_firstNearer 23 = .ok (.invokevirtual 165, 3) := by decide +kernel
theorem dX9_firstNearer_26 : decode cX9_firstNearer 26 = .ok (.invokevirtual 202, 3) := by decide +kernel
theorem dX9_firstNearer_29 : decode cX9_firstNearer 29 = .ok (.iload_n 2, 1) := by decide +kernel
theorem dX9_firstNearer_30 : decode cX9_firstNearer 30 = .ok (.if_icmp .ne 5, 3) := by decide +kernel
theorem dX9_firstNearer_33 : decode cX9_firstNearer 33 = .ok (.iload_n 3, 1) := by decide +kernel
theorem dX9_firstNearer_34 : decode cX9_firstNearer 34 = .ok (.ireturn, 1) := by decide +kernel
theorem dX9_firstNearer_35 : decode cX9_firstNearer 35 = .ok (.iinc 3 1, 3) := by decide +kernel
theorem dX9_firstNearer_38 : decode cX9_firstNearer 38 = .ok (.goto (-36), 3) := by decide +kernel
theorem dX9_firstNearer_41 : decode cX9_firstNearer 41 = .ok (.iconst (-1), 1) := by decide +kernel
theorem dX9_firstNearer_42 : decode cX9_firstNearer 42 = .ok (.ireturn, 1) := by decide +kernel
theorem dX9_reaches_0 : decode cX9_reaches 0 = .ok (.aload_n 0, 1) := by decide +kernel
theorem dX9_reaches_1 : decode cX9_reaches 1 = .ok (.getfield 33, 3) := by decide +kernel
theorem dX9_reaches_4 : decode cX9_reaches 4 = .ok (.iload_n 1, 1) := by decide +kernel
theorem dX9_reaches_5 : decode cX9_reaches 5 = .ok (.iload_n 2, 1) := by decide +kernel
theorem dX9_reaches_6 : decode cX9_reaches 6 = .ok (.invokevirtual 199, 3) := by decide +kernel
theorem dX9_reaches_9 : decode cX9_reaches 9 = .ok (.pop, 1) := by decide +kernel
theorem dX9_reaches_10 : decode cX9_reaches 10 = .ok (.aload_n 0, 1) := by decide +kernel
theorem dX9_reaches_11 : decode cX9_reaches 11 = .ok (.getfield 33, 3) := by decide +kernel
theorem dX9_reaches_14 : decode cX9_reaches 14 = .ok (.aload_n 0, 1) := by decide +kernel
theorem dX9_reaches_15 : decode cX9_reaches 15 = .ok (.getfield 47, 3) := by decide +kernel
theorem dX9_reaches_18 : decode cX9_reaches 18 = .ok (.getfield 112, 3) := by decide +kernel
theorem dX9_reaches_21 : decode cX9_reaches 21 = .ok (.invokevirtual 202, 3) := by decide +kernel
theorem dX9_reaches_24 : decode cX9_reaches 24 = .ok (.iconst (-1), 1) := by decide +kernel
theorem dX9_reaches_25 : decode cX9_reaches 25 = .ok (.if_icmp .eq 7, 3) := by decide +kernel
theorem dX9_reaches_28 : decode cX9_reaches 28 = .ok (.iconst 1, 1) := by decide +kernel
theorem dX9_reaches_29 : decode cX9_reaches 29 = .ok (.goto 4, 3) := by decide +kernel
theorem dX9_reaches_32 : decode cX9_reaches 32 = .ok (.iconst 0, 1) := by decide +kernel
theorem dX9_reaches_33 : decode cX9_reaches 33 = .ok (.ireturn, 1) := by decide +kernel
theorem dX9_thingsInOneState_0 : decode cX9_thingsInOneState 0 = .ok (.aload_n 0, 1) := by decide +kernel
theorem dX9_thingsInOneState_1 : decode cX9_thingsInOneState 1 = .ok (.getfield 66, 3) := by decide +kernel
theorem dX9_thingsInOneState_4 : decode cX9_thingsInOneState 4 = .ok (.getfield 243, 3) := by decide +kernel
theorem dX9_thingsInOneState_7 : decode cX9_thingsInOneState 7 = .ok (.iconst 0, 1) := by decide +kernel
theorem dX9_thingsInOneState_8 : decode cX9_thingsInOneState 8 = .ok (.invokestatic 152, 3) := by decide +kernel
theorem dX9_thingsInOneState_11 : decode cX9_thingsInOneState 11 = .ok (.istore_n 1, 1) := by decide +kernel
theorem dX9_thingsInOneState_12 : decode cX9_thingsInOneState 12 = .ok (.iconst 0, 1) := by decide +kernel
theorem dX9_thingsInOneState_13 : decode cX9_thingsInOneState 13 = .ok (.istore_n 2, 1) := by decide +kernel
theorem dX9_thingsInOneState_14 : decode cX9_thingsInOneState 14 = .ok (.iconst 1, 1) := by decide +kernel
theorem dX9_thingsInOneState_15 : decode cX9_thingsInOneState 15 = .ok (.istore_n 3, 1) := by decide +kernel
theorem dX9_thingsInOneState_16 : decode cX9_thingsInOneState 16 = .ok (.iload_n 3, 1) := by decide +kernel
theorem dX9_thingsInOneState_17 : decode cX9_thingsInOneState 17 = .ok (.aload_n 0, 1) := by decide +kernel
theorem dX9_thingsInOneState_18 : decode cX9_thingsInOneState 18 = .ok (.getfield 66, 3) := by decide +kernel
theorem dX9_thingsInOneState_21 : decode cX9_thingsInOneState 21 = .ok (.getfield 240, 3) := by decide +kernel
theorem dX9_thingsInOneState_24 : decode cX9_thingsInOneState 24 = .ok (.if_icmp .ge 25, 3) := by decide +kernel
theorem dX9_thingsInOneState_27 : decode cX9_thingsInOneState 27 = .ok (.iload_n 2, 1) := by decide +kernel
theorem dX9_thingsInOneState_28 : decode cX9_thingsInOneState 28 = .ok (.aload_n 0, 1) := by decide +kernel
theorem dX9_thingsInOneState_29 : decode cX9_thingsInOneState 29 = .ok (.getfield 66, 3) := by decide +kernel
theorem dX9_thingsInOneState_32 : decode cX9_thingsInOneState 32 = .ok (.getfield 243, 3) := by decide +kernel
theorem dX9_thingsInOneState_35 : decode cX9_thingsInOneState 35 = .ok (.iload_n 3, 1) := by decide +kernel
theorem dX9_thingsInOneState_36 : decode cX9_thingsInOneState 36 = .ok (.invokestatic 152, 3) := by decide +kernel
theorem dX9_thingsInOneState_39 : decode cX9_thingsInOneState 39 = .ok (.iload_n 1, 1) := by decide +kernel
theorem dX9_thingsInOneState_40 : decode cX9_thingsInOneState 40 = .ok (.ixor, 1) := by decide +kernel
theorem dX9_thingsInOneState_41 : decode cX9_thingsInOneState 41 = .ok (.ior, 1) := by decide +kernel
theorem dX9_thingsInOneState_42 : decode cX9_thingsInOneState 42 = .ok (.istore_n 2, 1) := by decide +kernel
theorem dX9_thingsInOneState_43 : decode cX9_thingsInOneState 43 = .ok (.iinc 3 1, 3) := by decide +kernel
theorem dX9_thingsInOneState_46 : decode cX9_thingsInOneState 46 = .ok (.goto (-30), 3) := by decide +kernel
theorem dX9_thingsInOneState_49 : decode cX9_thingsInOneState 49 = .ok (.iconst 0, 1) := by decide +kernel
theorem dX9_thingsInOneState_50 : decode cX9_thingsInOneState 50 = .ok (.istore_n 3, 1) := by decide +kernel
theorem dX9_thingsInOneState_51 : decode cX9_thingsInOneState 51 = .ok (.iconst 0, 1) := by decide +kernel
theorem dX9_thingsInOneState_52 : decode cX9_thingsInOneState 52 = .ok (.istore 4, 2) := by decide +kernel
theorem dX9_thingsInOneState_54 : decode cX9_thingsInOneState 54 = .ok (.iload 4, 2) := by decide +kernel
theorem dX9_thingsInOneState_56 : decode cX9_thingsInOneState 56 = .ok (.aload_n 0, 1) := by decide +kernel
theorem dX9_thingsInOneState_57 : decode cX9_thingsInOneState 57 = .ok (.getfield 26, 3) := by decide +kernel
theorem dX9_thingsInOneState_60 : decode cX9_thingsInOneState 60 = .ok (.invokevirtual 125, 3) := by decide +kernel
theorem dX9_thingsInOneState_63 : decode cX9_thingsInOneState 63 = .ok (.if_icmp .ge 29, 3) := by decide +kernel
theorem dX9_thingsInOneState_66 : decode cX9_thingsInOneState 66 = .ok (.aload_n 0, 1) := by decide +kernel
theorem dX9_thingsInOneState_67 : decode cX9_thingsInOneState 67 = .ok (.getfield 26, 3) := by decide +kernel
theorem dX9_thingsInOneState_70 : decode cX9_thingsInOneState 70 = .ok (.iload_n 2, 1) := by decide +kernel
theorem dX9_thingsInOneState_71 : decode cX9_thingsInOneState 71 = .ok (.iload 4, 2) := by decide +kernel
theorem dX9_thingsInOneState_73 : decode cX9_thingsInOneState 73 = .ok (.invokevirtual 139, 3) := by decide +kernel
theorem dX9_thingsInOneState_76 : decode cX9_thingsInOneState 76 = .ok (.ifCond .ne 10, 3) := by decide +kernel
theorem dX9_thingsInOneState_79 : decode cX9_thingsInOneState 79 = .ok (.iload_n 3, 1) := by decide +kernel
theorem dX9_thingsInOneState_80 : decode cX9_thingsInOneState 80 = .ok (.iconst 1, 1) := by decide +kernel
theorem dX9_thingsInOneState_81 : decode cX9_thingsInOneState 81 = .ok (.iload 4, 2) := by decide +kernel
theorem dX9_thingsInOneState_83 : decode cX9_thingsInOneState 83 = .ok (.ishl, 1) := by decide +kernel
theorem dX9_thingsInOneState_84 : decode cX9_thingsInOneState 84 = .ok (.ior, 1) := by decide +kernel
theorem dX9_thingsInOneState_85 : decode cX9_thingsInOneState 85 = .ok (.istore_n 3, 1) := by decide +kernel
theorem dX9_thingsInOneState_86 : decode cX9_thingsInOneState 86 = .ok (.iinc 4 1, 3) := by decide +kernel
theorem dX9_thingsInOneState_89 : decode cX9_thingsInOneState 89 = .ok (.goto (-35), 3) := by decide +kernel
theorem dX9_thingsInOneState_92 : decode cX9_thingsInOneState 92 = .ok (.iload_n 3, 1) := by decide +kernel
theorem dX9_thingsInOneState_93 : decode cX9_thingsInOneState 93 = .ok (.ireturn, 1) := by decide +kernel
theorem dX9_mostAlikeBehind_0 : decode cX9_mostAlikeBehind 0 = .ok (.aload_n 0, 1) := by decide +kernel
theorem dX9_mostAlikeBehind_1 : decode cX9_mostAlikeBehind 1 = .ok (.getfield 70, 3) := by decide +kernel
theorem dX9_mostAlikeBehind_4 : decode cX9_mostAlikeBehind 4 = .ok (.iconst 0, 1) := by decide +kernel
theorem dX9_mostAlikeBehind_5 : decode cX9_mostAlikeBehind 5 = .ok (.invokestatic 300, 3) := by decide +kernel
theorem dX9_mostAlikeBehind_8 : decode cX9_mostAlikeBehind 8 = .ok (.iconst 0, 1) := by decide +kernel
theorem dX9_mostAlikeBehind_9 : decode cX9_mostAlikeBehind 9 = .ok (.istore_n 2, 1) := by decide +kernel
theorem dX9_mostAlikeBehind_10 : decode cX9_mostAlikeBehind 10 = .ok (.iconst 0, 1) := by decide +kernel
theorem dX9_mostAlikeBehind_11 : decode cX9_mostAlikeBehind 11 = .ok (.istore_n 3, 1) := by decide +kernel
theorem dX9_mostAlikeBehind_12 : decode cX9_mostAlikeBehind 12 = .ok (.iload_n 3, 1) := by decide +kernel
theorem dX9_mostAlikeBehind_13 : decode cX9_mostAlikeBehind 13 = .ok (.aload_n 0, 1) := by decide +kernel
theorem dX9_mostAlikeBehind_14 : decode cX9_mostAlikeBehind 14 = .ok (.getfield 66, 3) := by decide +kernel
theorem dX9_mostAlikeBehind_17 : decode cX9_mostAlikeBehind 17 = .ok (.getfield 240, 3) := by decide +kernel
theorem dX9_mostAlikeBehind_20 : decode cX9_mostAlikeBehind 20 = .ok (.if_icmp .ge 68, 3) := by decide +kernel
theorem dX9_mostAlikeBehind_23 : decode cX9_mostAlikeBehind 23 = .ok (.aload_n 0, 1) := by decide +kernel
theorem dX9_mostAlikeBehind_24 : decode cX9_mostAlikeBehind 24 = .ok (.getfield 26, 3) := by decide +kernel
theorem dX9_mostAlikeBehind_27 : decode cX9_mostAlikeBehind 27 = .ok (.aload_n 0, 1) := by decide +kernel
theorem dX9_mostAlikeBehind_28 : decode cX9_mostAlikeBehind 28 = .ok (.getfield 26, 3) := by decide +kernel
theorem dX9_mostAlikeBehind_31 : decode cX9_mostAlikeBehind 31 = .ok (.aload_n 0, 1) := by decide +kernel
theorem dX9_mostAlikeBehind_32 : decode cX9_mostAlikeBehind 32 = .ok (.getfield 66, 3) := by decide +kernel
theorem dX9_mostAlikeBehind_35 : decode cX9_mostAlikeBehind 35 = .ok (.getfield 243, 3) := by decide +kernel
theorem dX9_mostAlikeBehind_38 : decode cX9_mostAlikeBehind 38 = .ok (.iload_n 3, 1) := by decide +kernel
theorem dX9_mostAlikeBehind_39 : decode cX9_mostAlikeBehind 39 = .ok (.invokestatic 152, 3) := by decide +kernel
theorem dX9_mostAlikeBehind_42 : decode cX9_mostAlikeBehind 42 = .ok (.iload_n 1, 1) := by decide +kernel
theorem dX9_mostAlikeBehind_43 : decode cX9_mostAlikeBehind 43 = .ok (.invokevirtual 165, 3) := by decide +kernel
theorem dX9_mostAlikeBehind_46 : decode cX9_mostAlikeBehind 46 = .ok (.invokevirtual 285, 3) := by decide +kernel
theorem dX9_mostAlikeBehind_49 : decode cX9_mostAlikeBehind 49 = .ok (.istore 4, 2) := by decide +kernel
theorem dX9_mostAlikeBehind_51 : decode cX9_mostAlikeBehind 51 = .ok (.aload_n 0, 1) := by decide +kernel
theorem dX9_mostAlikeBehind_52 : decode cX9_mostAlikeBehind 52 = .ok (.getfield 70, 3) := by decide +kernel
theorem dX9_mostAlikeBehind_55 : decode cX9_mostAlikeBehind 55 = .ok (.iload 4, 2) := by decide +kernel
theorem dX9_mostAlikeBehind_57 : decode cX9_mostAlikeBehind 57 = .ok (.invokestatic 152, 3) := by decide +kernel
theorem dX9_mostAlikeBehind_60 : decode cX9_mostAlikeBehind 60 = .ok (.iconst 1, 1) := by decide +kernel
theorem dX9_mostAlikeBehind_61 : decode cX9_mostAlikeBehind 61 = .ok (.iadd, 1) := by decide +kernel
theorem dX9_mostAlikeBehind_62 : decode cX9_mostAlikeBehind 62 = .ok (.istore 5, 2) := by decide +kernel
theorem dX9_mostAlikeBehind_64 : decode cX9_mostAlikeBehind 64 = .ok (.aload_n 0, 1) := by decide +kernel
theorem dX9_mostAlikeBehind_65 : decode cX9_mostAlikeBehind 65 = .ok (.getfield 70, 3) := by decide +kernel
theorem dX9_mostAlikeBehind_68 : decode cX9_mostAlikeBehind 68 = .ok (.iload 4, 2) := by decide +kernel
theorem dX9_mostAlikeBehind_70 : decode cX9_mostAlikeBehind 70 = .ok (.iload 5, 2) := by decide +kernel
theorem dX9_mostAlikeBehind_72 : decode cX9_mostAlikeBehind 72 = .ok (.invokestatic 306, 3) := by decide +kernel
theorem dX9_mostAlikeBehind_75 : decode cX9_mostAlikeBehind 75 = .ok (.iload_n 2, 1) := by decide +kernel
theorem dX9_mostAlikeBehind_76 : decode cX9_mostAlikeBehind 76 = .ok (.iload 5, 2) := by decide +kernel
theorem dX9_mostAlikeBehind_78 : decode cX9_mostAlikeBehind 78 = .ok (.invokestatic 310, 3) := by decide +kernel
theorem dX9_mostAlikeBehind_81 : decode cX9_mostAlikeBehind 81 = .ok (.istore_n 2, 1) := by decide +kernel
theorem dX9_mostAlikeBehind_82 : decode cX9_mostAlikeBehind 82 = .ok (.iinc 3 1, 3) := by decide +kernel
theorem dX9_mostAlikeBehind_85 : decode cX9_mostAlikeBehind 85 = .ok (.goto (-73), 3) := by decide +kernel
theorem dX9_mostAlikeBehind_88 : decode cX9_mostAlikeBehind 88 = .ok (.iload_n 2, 1) := by decide +kernel
theorem dX9_mostAlikeBehind_89 : decode cX9_mostAlikeBehind 89 = .ok (.ireturn, 1) := by decide +kernel
theorem dX9_ordersAround_0 : decode cX9_ordersAround 0 = .ok (.getstatic 255, 3) := by decide +kernel
theorem dX9_ordersAround_3 : decode cX9_ordersAround 3 = .ok (.iload_n 1, 1) := by decide +kernel
theorem dX9_ordersAround_4 : decode cX9_ordersAround 4 = .ok (.invokestatic 152, 3) := by decide +kernel
theorem dX9_ordersAround_7 : decode cX9_ordersAround 7 = .ok (.getstatic 255, 3) := by decide +kernel
theorem dX9_ordersAround_10 : decode cX9_ordersAround 10 = .ok (.aload_n 0, 1) := by decide +kernel
theorem dX9_ordersAround_11 : decode cX9_ordersAround 11 = .ok (.getfield 26, 3) := by decide +kernel
theorem dX9_ordersAround_14 : decode cX9_ordersAround 14 = .ok (.invokevirtual 128, 3) := by decide +kernel
theorem dX9_ordersAround_17 : decode cX9_ordersAround 17 = .ok (.iconst 1, 1) := by decide +kernel
theorem dX9_ordersAround_18 : decode cX9_ordersAround 18 = .ok (.isub, 1) := by decide +kernel
theorem dX9_ordersAround_19 : decode cX9_ordersAround 19 = .ok (.iload_n 1, 1) := by decide +kernel
theorem dX9_ordersAround_20 : decode cX9_ordersAround 20 = .ok (.isub, 1) := by decide +kernel
theorem dX9_ordersAround_21 : decode cX9_ordersAround 21 = .ok (.invokestatic 152, 3) := by decide +kernel
theorem dX9_ordersAround_24 : decode cX9_ordersAround 24 = .ok (.imul, 1) := by decide +kernel
theorem dX9_ordersAround_25 : decode cX9_ordersAround 25 = .ok (.ireturn, 1) := by decide +kernel
theorem dX9_firstRests_0 : decode cX9_firstRests 0 = .ok (.aload_n 0, 1) := by decide +kernel
theorem dX9_firstRests_1 : decode cX9_firstRests 1 = .ok (.iload_n 1, 1) := by decide +kernel
theorem dX9_firstRests_2 : decode cX9_firstRests 2 = .ok (.iload_n 2, 1) := by decide +kernel
theorem dX9_firstRests_3 : decode cX9_firstRests 3 = .ok (.iload_n 3, 1) := by decide +kernel
theorem dX9_firstRests_4 : decode cX9_firstRests 4 = .ok (.iload 4, 2) := by decide +kernel
theorem dX9_firstRests_6 : decode cX9_firstRests 6 = .ok (.invokevirtual 315, 3) := by decide +kernel
theorem dX9_firstRests_9 : decode cX9_firstRests 9 = .ok (.iload_n 1, 1) := by decide +kernel
theorem dX9_firstRests_10 : decode cX9_firstRests 10 = .ok (.invokestatic 319, 3) := by decide +kernel
theorem dX9_firstRests_13 : decode cX9_firstRests 13 = .ok (.iadd, 1) := by decide +kernel
theorem dX9_firstRests_14 : decode cX9_firstRests 14 = .ok (.istore 5, 2) := by decide +kernel
theorem dX9_firstRests_16 : decode cX9_firstRests 16 = .ok (.iconst 0, 1) := by decide +kernel
theorem dX9_firstRests_17 : decode cX9_firstRests 17 = .ok (.istore 6, 2) := by decide +kernel
theorem dX9_firstRests_19 : decode cX9_firstRests 19 = .ok (.iload 6, 2) := by decide +kernel
theorem dX9_firstRests_21 : decode cX9_firstRests 21 = .ok (.aload_n 0, 1) := by decide +kernel
theorem dX9_firstRests_22 : decode cX9_firstRests 22 = .ok (.getfield 26, 3) := by decide +kernel
theorem dX9_firstRests_25 : decode cX9_firstRests 25 = .ok (.invokevirtual 128, 3) := by decide +kernel
theorem dX9_firstRests_28 : decode cX9_firstRests 28 = .ok (.if_icmp .gt 32, 3) := by decide +kernel
theorem dX9_firstRests_31 : decode cX9_firstRests 31 = .ok (.aload_n 0, 1) := by decide +kernel
theorem dX9_firstRests_32 : decode cX9_firstRests 32 = .ok (.iload 6, 2) := by decide +kernel
theorem dX9_firstRests_34 : decode cX9_firstRests 34 = .ok (.iload_n 2, 1) := by decide +kernel
theorem dX9_firstRests_35 : decode cX9_firstRests 35 = .ok (.iload_n 3, 1) := by decide +kernel
theorem dX9_firstRests_36 : decode cX9_firstRests 36 = .ok (.iload 4, 2) := by decide +kernel
theorem dX9_firstRests_38 : decode cX9_firstRests 38 = .ok (.invokevirtual 315, 3) := by decide +kernel
theorem dX9_firstRests_41 : decode cX9_firstRests 41 = .ok (.iload 6, 2) := by decide +kernel
theorem dX9_firstRests_43 : decode cX9_firstRests 43 = .ok (.invokestatic 319, 3) := by decide +kernel
theorem dX9_firstRests_46 : decode cX9_firstRests 46 = .ok (.iadd, 1) := by decide +kernel
theorem dX9_firstRests_47 : decode cX9_firstRests 47 = .ok (.iload 5, 2) := by decide +kernel
theorem dX9_firstRests_49 : decode cX9_firstRests 49 = .ok (.if_icmp .ge 5, 3) := by decide +kernel
theorem dX9_firstRests_52 : decode cX9_firstRests 52 = .ok (.iconst 0, 1) := by decide +kernel
theorem dX9_firstRests_53 : decode cX9_firstRests 53 = .ok (.ireturn, 1) := by decide +kernel
theorem dX9_firstRests_54 : decode cX9_firstRests 54 = .ok (.iinc 6 1, 3) := by decide +kernel
theorem dX9_firstRests_57 : decode cX9_firstRests 57 = .ok (.goto (-38), 3) := by decide +kernel
theorem dX9_firstRests_60 : decode cX9_firstRests 60 = .ok (.iconst 1, 1) := by decide +kernel
theorem dX9_firstRests_61 : decode cX9_firstRests 61 = .ok (.ireturn, 1) := by decide +kernel
theorem dX9_secondRests_0 : decode cX9_secondRests 0 = .ok (.aload_n 0, 1) := by decide +kernel
theorem dX9_secondRests_1 : decode cX9_secondRests 1 = .ok (.iload_n 1, 1) := by decide +kernel
theorem dX9_secondRests_2 : decode cX9_secondRests 2 = .ok (.iload_n 2, 1) := by decide +kernel
theorem dX9_secondRests_3 : decode cX9_secondRests 3 = .ok (.iload_n 3, 1) := by decide +kernel
theorem dX9_secondRests_4 : decode cX9_secondRests 4 = .ok (.iload 4, 2) := by decide +kernel
theorem dX9_secondRests_6 : decode cX9_secondRests 6 = .ok (.invokevirtual 315, 3) := by decide +kernel
theorem dX9_secondRests_9 : decode cX9_secondRests 9 = .ok (.iload_n 2, 1) := by decide +kernel
theorem dX9_secondRests_10 : decode cX9_secondRests 10 = .ok (.invokestatic 319, 3) := by decide +kernel
theorem dX9_secondRests_13 : decode cX9_secondRests 13 = .ok (.iadd, 1) := by decide +kernel
theorem dX9_secondRests_14 : decode cX9_secondRests 14 = .ok (.istore 5, 2) := by decide +kernel
theorem dX9_secondRests_16 : decode cX9_secondRests 16 = .ok (.iconst 0, 1) := by decide +kernel
theorem dX9_secondRests_17 : decode cX9_secondRests 17 = .ok (.istore 6, 2) := by decide +kernel
theorem dX9_secondRests_19 : decode cX9_secondRests 19 = .ok (.iload 6, 2) := by decide +kernel
theorem dX9_secondRests_21 : decode cX9_secondRests 21 = .ok (.aload_n 0, 1) := by decide +kernel
theorem dX9_secondRests_22 : decode cX9_secondRests 22 = .ok (.getfield 26, 3) := by decide +kernel
theorem dX9_secondRests_25 : decode cX9_secondRests 25 = .ok (.invokevirtual 128, 3) := by decide +kernel
theorem dX9_secondRests_28 : decode cX9_secondRests 28 = .ok (.if_icmp .gt 32, 3) := by decide +kernel
theorem dX9_secondRests_31 : decode cX9_secondRests 31 = .ok (.aload_n 0, 1) := by decide +kernel
theorem dX9_secondRests_32 : decode cX9_secondRests 32 = .ok (.iload_n 1, 1) := by decide +kernel
theorem dX9_secondRests_33 : decode cX9_secondRests 33 = .ok (.iload 6, 2) := by decide +kernel
theorem dX9_secondRests_35 : decode cX9_secondRests 35 = .ok (.iload_n 3, 1) := by decide +kernel
theorem dX9_secondRests_36 : decode cX9_secondRests 36 = .ok (.iload 4, 2) := by decide +kernel
theorem dX9_secondRests_38 : decode cX9_secondRests 38 = .ok (.invokevirtual 315, 3) := by decide +kernel
theorem dX9_secondRests_41 : decode cX9_secondRests 41 = .ok (.iload 6, 2) := by decide +kernel
theorem dX9_secondRests_43 : decode cX9_secondRests 43 = .ok (.invokestatic 319, 3) := by decide +kernel
theorem dX9_secondRests_46 : decode cX9_secondRests 46 = .ok (.iadd, 1) := by decide +kernel
theorem dX9_secondRests_47 : decode cX9_secondRests 47 = .ok (.iload 5, 2) := by decide +kernel
theorem dX9_secondRests_49 : decode cX9_secondRests 49 = .ok (.if_icmp .ge 5, 3) := by decide +kernel
theorem dX9_secondRests_52 : decode cX9_secondRests 52 = .ok (.iconst 0, 1) := by decide +kernel
theorem dX9_secondRests_53 : decode cX9_secondRests 53 = .ok (.ireturn, 1) := by decide +kernel
theorem dX9_secondRests_54 : decode cX9_secondRests 54 = .ok (.iinc 6 1, 3) := by decide +kernel
theorem dX9_secondRests_57 : decode cX9_secondRests 57 = .ok (.goto (-38), 3) := by decide +kernel
theorem dX9_secondRests_60 : decode cX9_secondRests 60 = .ok (.iconst 1, 1) := by decide +kernel
theorem dX9_secondRests_61 : decode cX9_secondRests 61 = .ok (.ireturn, 1) := by decide +kernel
theorem dX9_lossOf_0 : decode cX9_lossOf 0 = .ok (.aload_n 0, 1) := by decide +kernel
theorem dX9_lossOf_1 : decode cX9_lossOf 1 = .ok (.aload_n 0, 1) := by decide +kernel
theorem dX9_lossOf_2 : decode cX9_lossOf 2 = .ok (.aload_n 0, 1) := by decide +kernel
theorem dX9_lossOf_3 : decode cX9_lossOf 3 = .ok (.getfield 47, 3) := by decide +kernel
theorem dX9_lossOf_6 : decode cX9_lossOf 6 = .ok (.getfield 112, 3) := by decide +kernel
theorem dX9_lossOf_9 : decode cX9_lossOf 9 = .ok (.iload_n 1, 1) := by decide +kernel
theorem dX9_lossOf_10 : decode cX9_lossOf 10 = .ok (.invokevirtual 322, 3) := by decide +kernel
theorem dX9_lossOf_13 : decode cX9_lossOf 13 = .ok (.iload_n 2, 1) := by decide +kernel
theorem dX9_lossOf_14 : decode cX9_lossOf 14 = .ok (.invokevirtual 322, 3) := by decide +kernel
theorem dX9_lossOf_17 : decode cX9_lossOf 17 = .ok (.istore 5, 2) := by decide +kernel
theorem dX9_lossOf_19 : decode cX9_lossOf 19 = .ok (.aload_n 0, 1) := by decide +kernel
theorem dX9_lossOf_20 : decode cX9_lossOf 20 = .ok (.getfield 26, 3) := by decide +kernel
theorem dX9_lossOf_23 : decode cX9_lossOf 23 = .ok (.iload 5, 2) := by decide +kernel
theorem dX9_lossOf_25 : decode cX9_lossOf 25 = .ok (.iload_n 3, 1) := by decide +kernel
theorem dX9_lossOf_26 : decode cX9_lossOf 26 = .ok (.invokevirtual 139, 3) := by decide +kernel
theorem dX9_lossOf_29 : decode cX9_lossOf 29 = .ok (.iload 4, 2) := by decide +kernel
theorem dX9_lossOf_31 : decode cX9_lossOf 31 = .ok (.isub, 1) := by decide +kernel
theorem dX9_lossOf_32 : decode cX9_lossOf 32 = .ok (.invokestatic 325, 3) := by decide +kernel
theorem dX9_lossOf_35 : decode cX9_lossOf 35 = .ok (.ireturn, 1) := by decide +kernel
theorem dX9_behindChoice_0 : decode cX9_behindChoice 0 = .ok (.iload_n 2, 1) := by decide +kernel
theorem dX9_behindChoice_1 : decode cX9_behindChoice 1 = .ok (.ifCond .ne 7, 3) := by decide +kernel
theorem dX9_behindChoice_4 : decode cX9_behindChoice 4 = .ok (.iload_n 1, 1) := by decide +kernel
theorem dX9_behindChoice_5 : decode cX9_behindChoice 5 = .ok (.goto 14, 3) := by decide +kernel
theorem dX9_behindChoice_8 : decode cX9_behindChoice 8 = .ok (.aload_n 0, 1) := by decide +kernel
theorem dX9_behindChoice_9 : decode cX9_behindChoice 9 = .ok (.getfield 26, 3) := by decide +kernel
theorem dX9_behindChoice_12 : decode cX9_behindChoice 12 = .ok (.iload_n 1, 1) := by decide +kernel
theorem dX9_behindChoice_13 : decode cX9_behindChoice 13 = .ok (.iload_n 2, 1) := by decide +kernel
theorem dX9_behindChoice_14 : decode cX9_behindChoice 14 = .ok (.iconst 1, 1) := by decide +kernel
theorem dX9_behindChoice_15 : decode cX9_behindChoice 15 = .ok (.isub, 1) := by decide +kernel
theorem dX9_behindChoice_16 : decode cX9_behindChoice 16 = .ok (.invokevirtual 165, 3) := by decide +kernel
theorem dX9_behindChoice_19 : decode cX9_behindChoice 19 = .ok (.ireturn, 1) := by decide +kernel
theorem dX9_priceOf_0 : decode cX9_priceOf 0 = .ok (.iload_n 0, 1) := by decide +kernel
theorem dX9_priceOf_1 : decode cX9_priceOf 1 = .ok (.ifCond .ne 7, 3) := by decide +kernel
theorem dX9_priceOf_4 : decode cX9_priceOf 4 = .ok (.iconst 0, 1) := by decide +kernel
theorem dX9_priceOf_5 : decode cX9_priceOf 5 = .ok (.goto 4, 3) := by decide +kernel
theorem dX9_priceOf_8 : decode cX9_priceOf 8 = .ok (.iconst 1, 1) := by decide +kernel
theorem dX9_priceOf_9 : decode cX9_priceOf 9 = .ok (.ireturn, 1) := by decide +kernel
theorem dX9_tellChances_0 : decode cX9_tellChances 0 = .ok (.aload_n 0, 1) := by decide +kernel
theorem dX9_tellChances_1 : decode cX9_tellChances 1 = .ok (.getfield 74, 3) := by decide +kernel
theorem dX9_tellChances_4 : decode cX9_tellChances 4 = .ok (.iconst 0, 1) := by decide +kernel
theorem dX9_tellChances_5 : decode cX9_tellChances 5 = .ok (.invokestatic 300, 3) := by decide +kernel
theorem dX9_tellChances_8 : decode cX9_tellChances 8 = .ok (.aload_n 0, 1) := by decide +kernel
theorem dX9_tellChances_9 : decode cX9_tellChances 9 = .ok (.getfield 74, 3) := by decide +kernel
theorem dX9_tellChances_12 : decode cX9_tellChances 12 = .ok (.iconst 0, 1) := by decide +kernel
theorem dX9_tellChances_13 : decode cX9_tellChances 13 = .ok (.iconst 1, 1) := by decide +kernel
theorem dX9_tellChances_14 : decode cX9_tellChances 14 = .ok (.invokestatic 306, 3) := by decide +kernel
theorem dX9_tellChances_17 : decode cX9_tellChances 17 = .ok (.iconst 0, 1) := by decide +kernel
theorem dX9_tellChances_18 : decode cX9_tellChances 18 = .ok (.istore_n 3, 1) := by decide +kernel
theorem dX9_tellChances_19 : decode cX9_tellChances 19 = .ok (.iload_n 3, 1) := by decide +kernel
theorem dX9_tellChances_20 : decode cX9_tellChances 20 = .ok (.iload_n 1, 1) := by decide +kernel
theorem dX9_tellChances_21 : decode cX9_tellChances 21 = .ok (.if_icmp .ge 73, 3) := by decide +kernel
theorem dX9_tellChances_24 : decode cX9_tellChances 24 = .ok (.iload_n 1, 1) := by decide +kernel
theorem dX9_tellChances_25 : decode cX9_tellChances 25 = .ok (.istore 4, 2) := by decide +kernel
theorem dX9_tellChances_27 : decode cX9_tellChances 27 = .ok (.iload 4, 2) := by decide +kernel
theorem dX9_tellChances_29 : decode cX9_tellChances 29 = .ok (.ifCond .lt 59, 3) := by decide +kernel
theorem dX9_tellChances_32 : decode cX9_tellChances 32 = .ok (.iload 4, 2) := by decide +kernel
theorem dX9_tellChances_34 : decode cX9_tellChances 34 = .ok (.ifCond .ne 7, 3) := by decide +kernel
theorem dX9_tellChances_37 : decode cX9_tellChances 37 = .ok (.iconst 0, 1) := by decide +kernel
theorem dX9_tellChances_38 : decode cX9_tellChances 38 = .ok (.goto 19, 3) := by decide +kernel
theorem dX9_tellChances_41 : decode cX9_tellChances 41 = .ok (.aload_n 0, 1) := by decide +kernel
theorem dX9_tellChances_42 : decode cX9_tellChances 42 = .ok (.getfield 74, 3) := by decide +kernel
theorem dX9_tellChances_45 : decode cX9_tellChances 45 = .ok (.iload 4, 2) := by decide +kernel
theorem dX9_tellChances_47 : decode cX9_tellChances 47 = .ok (.iconst 1, 1) := by decide +kernel
theorem dX9_tellChances_48 : decode cX9_tellChances 48 = .ok (.isub, 1) := by decide +kernel
theorem dX9_tellChances_49 : decode cX9_tellChances 49 = .ok (.invokestatic 152, 3) := by decide +kernel
theorem dX9_tellChances_52 : decode cX9_tellChances 52 = .ok (.bipush 10, 2) := by decide +kernel
theorem dX9_tellChances_54 : decode cX9_tellChances 54 = .ok (.iload_n 2, 1) := by decide +kernel
theorem dX9_tellChances_55 : decode cX9_tellChances 55 = .ok (.isub, 1) := by decide +kernel
theorem dX9_tellChances_56 : decode cX9_tellChances 56 = .ok (.imul, 1) := by decide +kernel
theorem dX9_tellChances_57 : decode cX9_tellChances 57 = .ok (.istore 5, 2) := by decide +kernel
theorem dX9_tellChances_59 : decode cX9_tellChances 59 = .ok (.aload_n 0, 1) := by decide +kernel
theorem dX9_tellChances_60 : decode cX9_tellChances 60 = .ok (.getfield 74, 3) := by decide +kernel
theorem dX9_tellChances_63 : decode cX9_tellChances 63 = .ok (.iload 4, 2) := by decide +kernel
theorem dX9_tellChances_65 : decode cX9_tellChances 65 = .ok (.aload_n 0, 1) := by decide +kernel
theorem dX9_tellChances_66 : decode cX9_tellChances 66 = .ok (.getfield 74, 3) := by decide +kernel
theorem dX9_tellChances_69 : decode cX9_tellChances 69 = .ok (.iload 4, 2) := by decide +kernel
theorem dX9_tellChances_71 : decode cX9_tellChances 71 = .ok (.invokestatic 152, 3) := by decide +kernel
theorem dX9_tellChances_74 : decode cX9_tellChances 74 = .ok (.iload_n 2, 1) := by decide +kernel
theorem dX9_tellChances_75 : decode cX9_tellChances 75 = .ok (.imul, 1) := by decide +kernel
theorem dX9_tellChances_76 : decode cX9_tellChances 76 = .ok (.iload 5, 2) := by decide +kernel
theorem dX9_tellChances_78 : decode cX9_tellChances 78 = .ok (.iadd, 1) := by decide +kernel
theorem dX9_tellChances_79 : decode cX9_tellChances 79 = .ok (.invokestatic 306, 3) := by decide +kernel
theorem dX9_tellChances_82 : decode cX9_tellChances 82 = .ok (.iinc 4 (-1), 3) := by decide +kernel
theorem dX9_tellChances_85 : decode cX9_tellChances 85 = .ok (.goto (-58), 3) := by decide +kernel
theorem dX9_tellChances_88 : decode cX9_tellChances 88 = .ok (.iinc 3 1, 3) := by decide +kernel
theorem dX9_tellChances_91 : decode cX9_tellChances 91 = .ok (.goto (-72), 3) := by decide +kernel
theorem dX9_tellChances_94 : decode cX9_tellChances 94 = .ok (.return_, 1) := by decide +kernel
theorem dX9_fraction_0 : decode cX9_fraction 0 = .ok (.iload_n 0, 1) := by decide +kernel
theorem dX9_fraction_1 : decode cX9_fraction 1 = .ok (.iload_n 1, 1) := by decide +kernel
theorem dX9_fraction_2 : decode cX9_fraction 2 = .ok (.invokestatic 328, 3) := by decide +kernel
theorem dX9_fraction_5 : decode cX9_fraction 5 = .ok (.istore_n 3, 1) := by decide +kernel
theorem dX9_fraction_6 : decode cX9_fraction 6 = .ok (.iload_n 3, 1) := by decide +kernel
theorem dX9_fraction_7 : decode cX9_fraction 7 = .ok (.ifCond .ne 6, 3) := by decide +kernel
theorem dX9_fraction_10 : decode cX9_fraction 10 = .ok (.bipush (-9), 2) := by decide +kernel
theorem dX9_fraction_12 : decode cX9_fraction 12 = .ok (.ireturn, 1) := by decide +kernel
theorem dX9_fraction_13 : decode cX9_fraction 13 = .ok (.iload_n 2, 1) := by decide +kernel
theorem dX9_fraction_14 : decode cX9_fraction 14 = .ok (.ifCond .eq 7, 3) := by decide +kernel
theorem dX9_fraction_17 : decode cX9_fraction 17 = .ok (.iload_n 0, 1) := by decide +kernel
theorem dX9_fraction_18 : decode cX9_fraction 18 = .ok (.goto 4, 3) := by decide +kernel
theorem dX9_fraction_21 : decode cX9_fraction 21 = .ok (.iload_n 1, 1) := by decide +kernel
theorem dX9_fraction_22 : decode cX9_fraction 22 = .ok (.iload_n 3, 1) := by decide +kernel
theorem dX9_fraction_23 : decode cX9_fraction 23 = .ok (.idiv, 1) := by decide +kernel
theorem dX9_fraction_24 : decode cX9_fraction 24 = .ok (.ireturn, 1) := by decide +kernel
theorem dX9_commonDivisor_0 : decode cX9_commonDivisor 0 = .ok (.iload_n 0, 1) := by decide +kernel
theorem dX9_commonDivisor_1 : decode cX9_commonDivisor 1 = .ok (.istore_n 2, 1) := by decide +kernel
theorem dX9_commonDivisor_2 : decode cX9_commonDivisor 2 = .ok (.iload_n 1, 1) := by decide +kernel
theorem dX9_commonDivisor_3 : decode cX9_commonDivisor 3 = .ok (.istore_n 3, 1) := by decide +kernel
theorem dX9_commonDivisor_4 : decode cX9_commonDivisor 4 = .ok (.iconst 0, 1) := by decide +kernel
theorem dX9_commonDivisor_5 : decode cX9_commonDivisor 5 = .ok (.istore 4, 2) := by decide +kernel
theorem dX9_commonDivisor_7 : decode cX9_commonDivisor 7 = .ok (.iload 4, 2) := by decide +kernel
theorem dX9_commonDivisor_9 : decode cX9_commonDivisor 9 = .ok (.bipush 64, 2) := by decide +kernel
theorem dX9_commonDivisor_11 : decode cX9_commonDivisor 11 = .ok (.if_icmp .ge 23, 3) := by decide +kernel
theorem dX9_commonDivisor_14 : decode cX9_commonDivisor 14 = .ok (.iload_n 3, 1) := by decide +kernel
theorem dX9_commonDivisor_15 : decode cX9_commonDivisor 15 = .ok (.ifCond .eq 19, 3) := by decide +kernel
theorem dX9_commonDivisor_18 : decode cX9_commonDivisor 18 = .ok (.iload_n 2, 1) := by decide +kernel
theorem dX9_commonDivisor_19 : decode cX9_commonDivisor 19 = .ok (.iload_n 3, 1) := by decide +kernel
theorem dX9_commonDivisor_20 : decode cX9_commonDivisor 20 = .ok (.irem, 1) := by decide +kernel
theorem dX9_commonDivisor_21 : decode cX9_commonDivisor 21 = .ok (.istore 5, 2) := by decide +kernel
theorem dX9_commonDivisor_23 : decode cX9_commonDivisor 23 = .ok (.iload_n 3, 1) := by decide +kernel
theorem dX9_commonDivisor_24 : decode cX9_commonDivisor 24 = .ok (.istore_n 2, 1) := by decide +kernel
theorem dX9_commonDivisor_25 : decode cX9_commonDivisor 25 = .ok (.iload 5, 2) := by decide +kernel
theorem dX9_commonDivisor_27 : decode cX9_commonDivisor 27 = .ok (.istore_n 3, 1) := by decide +kernel
theorem dX9_commonDivisor_28 : decode cX9_commonDivisor 28 = .ok (.iinc 4 1, 3) := by decide +kernel
theorem dX9_commonDivisor_31 : decode cX9_commonDivisor 31 = .ok (.goto (-24), 3) := by decide +kernel
theorem dX9_commonDivisor_34 : decode cX9_commonDivisor 34 = .ok (.iload_n 2, 1) := by decide +kernel
theorem dX9_commonDivisor_35 : decode cX9_commonDivisor 35 = .ok (.ireturn, 1) := by decide +kernel
theorem dX9_isRow_0 : decode cX9_isRow 0 = .ok (.iload_n 1, 1) := by decide +kernel
theorem dX9_isRow_1 : decode cX9_isRow 1 = .ok (.ifCond .lt 18, 3) := by decide +kernel
theorem dX9_isRow_4 : decode cX9_isRow 4 = .ok (.iload_n 1, 1) := by decide +kernel
theorem dX9_isRow_5 : decode cX9_isRow 5 = .ok (.getstatic 272, 3) := by decide +kernel
theorem dX9_isRow_8 : decode cX9_isRow 8 = .ok (.iload_n 0, 1) := by decide +kernel
theorem dX9_isRow_9 : decode cX9_isRow 9 = .ok (.invokestatic 152, 3) := by decide +kernel
theorem dX9_isRow_12 : decode cX9_isRow 12 = .ok (.if_icmp .ge 7, 3) := by decide +kernel
theorem dX9_isRow_15 : decode cX9_isRow 15 = .ok (.iconst 1, 1) := by decide +kernel
theorem dX9_isRow_16 : decode cX9_isRow 16 = .ok (.goto 4, 3) := by decide +kernel
theorem dX9_isRow_19 : decode cX9_isRow 19 = .ok (.iconst 0, 1) := by decide +kernel
theorem dX9_isRow_20 : decode cX9_isRow 20 = .ok (.ireturn, 1) := by decide +kernel
theorem dX9_figuresOf_0 : decode cX9_figuresOf 0 = .ok (.iconst 0, 1) := by decide +kernel
theorem dX9_figuresOf_1 : decode cX9_figuresOf 1 = .ok (.istore_n 1, 1) := by decide +kernel
theorem dX9_figuresOf_2 : decode cX9_figuresOf 2 = .ok (.iload_n 1, 1) := by decide +kernel
theorem dX9_figuresOf_3 : decode cX9_figuresOf 3 = .ok (.bipush 6, 2) := by decide +kernel
theorem dX9_figuresOf_5 : decode cX9_figuresOf 5 = .ok (.if_icmp .ge 20, 3) := by decide +kernel
theorem dX9_figuresOf_8 : decode cX9_figuresOf 8 = .ok (.iload_n 0, 1) := by decide +kernel
theorem dX9_figuresOf_9 : decode cX9_figuresOf 9 = .ok (.getstatic 272, 3) := by decide +kernel
theorem dX9_figuresOf_12 : decode cX9_figuresOf 12 = .ok (.iload_n 1, 1) := by decide +kernel
theorem dX9_figuresOf_13 : decode cX9_figuresOf 13 = .ok (.invokestatic 152, 3) := by decide +kernel
theorem dX9_figuresOf_16 : decode cX9_figuresOf 16 = .ok (.if_icmp .lt 9, 3) := by decide +kernel
theorem dX9_figuresOf_19 : decode cX9_figuresOf 19 = .ok (.iinc 1 1, 3) := by decide +kernel
theorem dX9_figuresOf_22 : decode cX9_figuresOf 22 = .ok (.goto (-20), 3) := by decide +kernel
theorem dX9_figuresOf_25 : decode cX9_figuresOf 25 = .ok (.iload_n 1, 1) := by decide +kernel
theorem dX9_figuresOf_26 : decode cX9_figuresOf 26 = .ok (.ireturn, 1) := by decide +kernel
theorem dX9_at_0 : decode cX9_at 0 = .ok (.aload_n 0, 1) := by decide +kernel
theorem dX9_at_1 : decode cX9_at 1 = .ok (.ifnull 19, 3) := by decide +kernel
theorem dX9_at_4 : decode cX9_at 4 = .ok (.iload_n 1, 1) := by decide +kernel
theorem dX9_at_5 : decode cX9_at 5 = .ok (.ifCond .lt 15, 3) := by decide +kernel
theorem dX9_at_8 : decode cX9_at 8 = .ok (.iload_n 1, 1) := by decide +kernel
theorem dX9_at_9 : decode cX9_at 9 = .ok (.aload_n 0, 1) := by decide +kernel
theorem dX9_at_10 : decode cX9_at 10 = .ok (.arraylength, 1) := by decide +kernel
theorem dX9_at_11 : decode cX9_at 11 = .ok (.if_icmp .ge 9, 3) := by decide +kernel
theorem dX9_at_14 : decode cX9_at 14 = .ok (.aload_n 0, 1) := by decide +kernel
theorem dX9_at_15 : decode cX9_at 15 = .ok (.iload_n 1, 1) := by decide +kernel
theorem dX9_at_16 : decode cX9_at 16 = .ok (.iaload, 1) := by decide +kernel
theorem dX9_at_17 : decode cX9_at 17 = .ok (.goto 4, 3) := by decide +kernel
theorem dX9_at_20 : decode cX9_at 20 = .ok (.iconst 0, 1) := by decide +kernel
theorem dX9_at_21 : decode cX9_at 21 = .ok (.ireturn, 1) := by decide +kernel
theorem dX9_put_0 : decode cX9_put 0 = .ok (.aload_n 0, 1) := by decide +kernel
theorem dX9_put_1 : decode cX9_put 1 = .ok (.ifnull 17, 3) := by decide +kernel
theorem dX9_put_4 : decode cX9_put 4 = .ok (.iload_n 1, 1) := by decide +kernel
theorem dX9_put_5 : decode cX9_put 5 = .ok (.ifCond .lt 13, 3) := by decide +kernel
theorem dX9_put_8 : decode cX9_put 8 = .ok (.iload_n 1, 1) := by decide +kernel
theorem dX9_put_9 : decode cX9_put 9 = .ok (.aload_n 0, 1) := by decide +kernel
theorem dX9_put_10 : decode cX9_put 10 = .ok (.arraylength, 1) := by decide +kernel
theorem dX9_put_11 : decode cX9_put 11 = .ok (.if_icmp .ge 7, 3) := by decide +kernel
theorem dX9_put_14 : decode cX9_put 14 = .ok (.aload_n 0, 1) := by decide +kernel
theorem dX9_put_15 : decode cX9_put 15 = .ok (.iload_n 1, 1) := by decide +kernel
theorem dX9_put_16 : decode cX9_put 16 = .ok (.iload_n 2, 1) := by decide +kernel
theorem dX9_put_17 : decode cX9_put 17 = .ok (.iastore, 1) := by decide +kernel
theorem dX9_put_18 : decode cX9_put 18 = .ok (.return_, 1) := by decide +kernel
theorem dX10_init_0 : decode cX10_init 0 = .ok (.aload_n 0, 1) := by decide +kernel
theorem dX10_init_1 : decode cX10_init 1 = .ok (.invokespecial 1, 3) := by decide +kernel
theorem dX10_init_4 : decode cX10_init 4 = .ok (.aload_n 0, 1) := by decide +kernel
theorem dX10_init_5 : decode cX10_init 5 = .ok (.iconst 4, 1) := by decide +kernel
theorem dX10_init_6 : decode cX10_init 6 = .ok (.newarray .int, 2) := by decide +kernel
theorem dX10_init_8 : decode cX10_init 8 = .ok (.putfield 7, 3) := by decide +kernel
theorem dX10_init_11 : decode cX10_init 11 = .ok (.aload_n 0, 1) := by decide +kernel
theorem dX10_init_12 : decode cX10_init 12 = .ok (.iconst 4, 1) := by decide +kernel
theorem dX10_init_13 : decode cX10_init 13 = .ok (.newarray .int, 2) := by decide +kernel
theorem dX10_init_15 : decode cX10_init 15 = .ok (.putfield 13, 3) := by decide +kernel
theorem dX10_init_18 : decode cX10_init 18 = .ok (.aload_n 0, 1) := by decide +kernel
theorem dX10_init_19 : decode cX10_init 19 = .ok (.bipush 6, 2) := by decide +kernel
theorem dX10_init_21 : decode cX10_init 21 = .ok (.newarray .int, 2) := by decide +kernel
theorem dX10_init_23 : decode cX10_init 23 = .ok (.putfield 16, 3) := by decide +kernel
theorem dX10_init_26 : decode cX10_init 26 = .ok (.aload_n 0, 1) := by decide +kernel
theorem dX10_init_27 : decode cX10_init 27 = .ok (.bipush 6, 2) := by decide +kernel
theorem dX10_init_29 : decode cX10_init 29 = .ok (.newarray .int, 2) := by decide +kernel
theorem dX10_init_31 : decode cX10_init 31 = .ok (.putfield 19, 3) := by decide +kernel
theorem dX10_init_34 : decode cX10_init 34 = .ok (.aload_n 0, 1) := by decide +kernel
theorem dX10_init_35 : decode cX10_init 35 = .ok (.bipush 6, 2) := by decide +kernel
theorem dX10_init_37 : decode cX10_init 37 = .ok (.newarray .int, 2) := by decide +kernel
theorem dX10_init_39 : decode cX10_init 39 = .ok (.putfield 22, 3) := by decide +kernel
theorem dX10_init_42 : decode cX10_init 42 = .ok (.aload_n 0, 1) := by decide +kernel
theorem dX10_init_43 : decode cX10_init 43 = .ok (.sipush 1536, 3) := by decide +kernel
theorem dX10_init_46 : decode cX10_init 46 = .ok (.newarray .int, 2) := by decide +kernel
theorem dX10_init_48 : decode cX10_init 48 = .ok (.putfield 25, 3) := by decide +kernel
theorem dX10_init_51 : decode cX10_init 51 = .ok (.aload_n 0, 1) := by decide +kernel
theorem dX10_init_52 : decode cX10_init 52 = .ok (.iconst 4, 1) := by decide +kernel
theorem dX10_init_53 : decode cX10_init 53 = .ok (.newarray .int, 2) := by decide +kernel
theorem dX10_init_55 : decode cX10_init 55 = .ok (.putfield 28, 3) := by decide +kernel
theorem dX10_init_58 : decode cX10_init 58 = .ok (.aload_n 0, 1) := by decide +kernel
theorem dX10_init_59 : decode cX10_init 59 = .ok (.iconst 4, 1) := by decide +kernel
theorem dX10_init_60 : decode cX10_init 60 = .ok (.newarray .int, 2) := by decide +kernel
theorem dX10_init_62 : decode cX10_init 62 = .ok (.putfield 31, 3) := by decide +kernel
theorem dX10_init_65 : decode cX10_init 65 = .ok (.aload_n 0, 1) := by decide +kernel
theorem dX10_init_66 : decode cX10_init 66 = .ok (.bipush 18, 2) := by decide +kernel
theorem dX10_init_68 : decode cX10_init 68 = .ok (.newarray .int, 2) := by decide +kernel
theorem dX10_init_70 : decode cX10_init 70 = .ok (.putfield 34, 3) := by decide +kernel
theorem dX10_init_73 : decode cX10_init 73 = .ok (.aload_n 0, 1) := by decide +kernel
theorem dX10_init_74 : decode cX10_init 74 = .ok (.bipush 44, 2) := by decide +kernel
theorem dX10_init_76 : decode cX10_init 76 = .ok (.newarray .int, 2) := by decide +kernel
theorem dX10_init_78 : decode cX10_init 78 = .ok (.putfield 37, 3) := by decide +kernel
theorem dX10_init_81 : decode cX10_init 81 = .ok (.aload_n 0, 1) := by decide +kernel
theorem dX10_init_82 : decode cX10_init 82 = .ok (.bipush 42, 2) := by decide +kernel
theorem dX10_init_84 : decode cX10_init 84 = .ok (.newarray .int, 2) := by decide +kernel
theorem dX10_init_86 : decode cX10_init 86 = .ok (.putfield 40, 3) := by decide +kernel
theorem dX10_init_89 : decode cX10_init 89 = .ok (.aload_n 0, 1) := by decide +kernel
theorem dX10_init_90 : decode cX10_init 90 = .ok (.sipush 256, 3) := by decide +kernel
theorem dX10_init_93 : decode cX10_init 93 = .ok (.newarray .int, 2) := by decide +kernel
theorem dX10_init_95 : decode cX10_init 95 = .ok (.putfield 43, 3) := by decide +kernel
theorem dX10_init_98 : decode cX10_init 98 = .ok (.aload_n 0, 1) := by decide +kernel
theorem dX10_init_99 : decode cX10_init 99 = .ok (.bipush 6, 2) := by decide +kernel
theorem dX10_init_101 : decode cX10_init 101 = .ok (.newarray .int, 2) := by decide +kernel
theorem dX10_init_103 : decode cX10_init 103 = .ok (.putfield 46, 3) := by decide +kernel
theorem dX10_init_106 : decode cX10_init 106 = .ok (.aload_n 0, 1) := by decide +kernel
theorem dX10_init_107 : decode cX10_init 107 = .ok (.bipush 6, 2) := by decide +kernel
theorem dX10_init_109 : decode cX10_init 109 = .ok (.newarray .int, 2) := by decide +kernel
theorem dX10_init_111 : decode cX10_init 111 = .ok (.putfield 49, 3) := by decide +kernel
theorem dX10_init_114 : decode cX10_init 114 = .ok (.aload_n 0, 1) := by decide +kernel
theorem dX10_init_115 : decode cX10_init 115 = .ok (.bipush 6, 2) := by decide +kernel
theorem dX10_init_117 : decode cX10_init 117 = .ok (.newarray .int, 2) := by decide +kernel
theorem dX10_init_119 : decode cX10_init 119 = .ok (.putfield 52, 3) := by decide +kernel
theorem dX10_init_122 : decode cX10_init 122 = .ok (.aload_n 0, 1) := by decide +kernel
theorem dX10_init_123 : decode cX10_init 123 = .ok (.bipush 16, 2) := by decide +kernel
theorem dX10_init_125 : decode cX10_init 125 = .ok (.newarray .int, 2) := by decide +kernel
theorem dX10_init_127 : decode cX10_init 127 = .ok (.putfield 55, 3) := by decide +kernel
theorem dX10_init_130 : decode cX10_init 130 = .ok (.aload_n 0, 1) := by decide +kernel
theorem dX10_init_131 : decode cX10_init 131 = .ok (.bipush 64, 2) := by decide +kernel
theorem dX10_init_133 : decode cX10_init 133 = .ok (.newarray .int, 2) := by decide +kernel
theorem dX10_init_135 : decode cX10_init 135 = .ok (.putfield 58, 3) := by decide +kernel
theorem dX10_init_138 : decode cX10_init 138 = .ok (.aload_n 0, 1) := by decide +kernel
theorem dX10_init_139 : decode cX10_init 139 = .ok (.iconst 2, 1) := by decide +kernel
theorem dX10_init_140 : decode cX10_init 140 = .ok (.newarray .boolean, 2) := by decide +kernel
theorem dX10_init_142 : decode cX10_init 142 = .ok (.putfield 61, 3) := by decide +kernel
theorem dX10_init_145 : decode cX10_init 145 = .ok (.aload_n 0, 1) := by decide +kernel
theorem dX10_init_146 : decode cX10_init 146 = .ok (.bipush 6, 2) := by decide +kernel
theorem dX10_init_148 : decode cX10_init 148 = .ok (.newarray .int, 2) := by decide +kernel
theorem dX10_init_150 : decode cX10_init 150 = .ok (.putfield 65, 3) := by decide +kernel
theorem dX10_init_153 : decode cX10_init 153 = .ok (.aload_n 0, 1) := by decide +kernel
theorem dX10_init_154 : decode cX10_init 154 = .ok (.iconst 1, 1) := by decide +kernel
theorem dX10_init_155 : decode cX10_init 155 = .ok (.putfield 68, 3) := by decide +kernel
theorem dX10_init_158 : decode cX10_init 158 = .ok (.return_, 1) := by decide +kernel
theorem dX10_in_0 : decode cX10_in 0 = .ok (.lload_n 0, 1) := by decide +kernel
theorem dX10_in_1 : decode cX10_in 1 = .ok (.lload_n 2, 1) := by decide +kernel
theorem dX10_in_2 : decode cX10_in 2 = .ok (.lcmp, 1) := by decide +kernel
theorem dX10_in_3 : decode cX10_in 3 = .ok (.ifCond .lt 14, 3) := by decide +kernel
theorem dX10_in_6 : decode cX10_in 6 = .ok (.lload_n 0, 1) := by decide +kernel
theorem dX10_in_7 : decode cX10_in 7 = .ok (.lload 4, 2) := by decide +kernel
theorem dX10_in_9 : decode cX10_in 9 = .ok (.lcmp, 1) := by decide +kernel
theorem dX10_in_10 : decode cX10_in 10 = .ok (.ifCond .gt 7, 3) := by decide +kernel
theorem dX10_in_13 : decode cX10_in 13 = .ok (.iconst 1, 1) := by decide +kernel
theorem dX10_in_14 : decode cX10_in 14 = .ok (.goto 4, 3) := by decide +kernel
theorem dX10_in_17 : decode cX10_in 17 = .ok (.iconst 0, 1) := by decide +kernel
theorem dX10_in_18 : decode cX10_in 18 = .ok (.ireturn, 1) := by decide +kernel
theorem dX10_has_0 : decode cX10_has 0 = .ok (.iload_n 0, 1) := by decide +kernel
theorem dX10_has_1 : decode cX10_has 1 = .ok (.iload_n 1, 1) := by decide +kernel
theorem dX10_has_2 : decode cX10_has 2 = .ok (.ishr, 1) := by decide +kernel
theorem dX10_has_3 : decode cX10_has 3 = .ok (.iconst 1, 1) := by decide +kernel
theorem dX10_has_4 : decode cX10_has 4 = .ok (.iand, 1) := by decide +kernel
theorem dX10_has_5 : decode cX10_has 5 = .ok (.iconst 1, 1) := by decide +kernel
theorem dX10_has_6 : decode cX10_has 6 = .ok (.if_icmp .ne 7, 3) := by decide +kernel
theorem dX10_has_9 : decode cX10_has 9 = .ok (.iconst 1, 1) := by decide +kernel
theorem dX10_has_10 : decode cX10_has 10 = .ok (.goto 4, 3) := by decide +kernel
theorem dX10_has_13 : decode cX10_has 13 = .ok (.iconst 0, 1) := by decide +kernel
theorem dX10_has_14 : decode cX10_has 14 = .ok (.ireturn, 1) := by decide +kernel
theorem dX10_ones_0 : decode cX10_ones 0 = .ok (.iconst 0, 1) := by decide +kernel
theorem dX10_ones_1 : decode cX10_ones 1 = .ok (.istore_n 1, 1) := by decide +kernel
theorem dX10_ones_2 : decode cX10_ones 2 = .ok (.iconst 0, 1) := by decide +kernel
theorem dX10_ones_3 : decode cX10_ones 3 = .ok (.istore_n 2, 1) := by decide +kernel
theorem dX10_ones_4 : decode cX10_ones 4 = .ok (.iload_n 2, 1) := by decide +kernel
theorem dX10_ones_5 : decode cX10_ones 5 = .ok (.bipush 6, 2) := by decide +kernel
theorem dX10_ones_7 : decode cX10_ones 7 = .ok (.if_icmp .ge 17, 3) := by decide +kernel
theorem dX10_ones_10 : decode cX10_ones 10 = .ok (.iload_n 1, 1) := by decide +kernel
theorem dX10_ones_11 : decode cX10_ones 11 = .ok (.iload_n 0, 1) := by decide +kernel
theorem dX10_ones_12 : decode cX10_ones 12 = .ok (.iload_n 2, 1) := by decide +kernel
theorem dX10_ones_13 : decode cX10_ones 13 = .ok (.ishr, 1) := by decide +kernel
theorem dX10_ones_14 : decode cX10_ones 14 = .ok (.iconst 1, 1) := by decide +kernel
theorem dX10_ones_15 : decode cX10_ones 15 = .ok (.iand, 1) := by decide +kernel
theorem dX10_ones_16 : decode cX10_ones 16 = .ok (.iadd, 1) := by decide +kernel
theorem dX10_ones_17 : decode cX10_ones 17 = .ok (.istore_n 1, 1) := by decide +kernel
theorem dX10_ones_18 : decode cX10_ones 18 = .ok (.iinc 2 1, 3) := by decide +kernel
theorem dX10_ones_21 : decode cX10_ones 21 = .ok (.goto (-17), 3) := by decide +kernel
theorem dX10_ones_24 : decode cX10_ones 24 = .ok (.iload_n 1, 1) := by decide +kernel
theorem dX10_ones_25 : decode cX10_ones 25 = .ok (.ireturn, 1) := by decide +kernel
theorem dX10_write_0 : decode cX10_write 0 = .ok (.iload_n 1, 1) := by decide +kernel
theorem dX10_write_1 : decode cX10_write 1 = .ok (.i2l, 1) := by decide +kernel
theorem dX10_write_2 : decode cX10_write 2 = .ok (.lconst 0, 1) := by decide +kernel
theorem dX10_write_3 : decode cX10_write 3 = .ok (.ldc2_w 72, 3) := by decide +kernel
theorem dX10_write_6 : decode cX10_write 6 = .ok (.invokestatic 74, 3) := by decide +kernel
theorem dX10_write_9 : decode cX10_write 9 = .ok (.ifCond .ne 6, 3) := by decide +kernel
theorem dX10_write_12 : decode cX10_write 12 = .ok (.bipush (-2), 2) := by decide +kernel
theorem dX10_write_14 : decode cX10_write 14 = .ok (.ireturn, 1) := by decide +kernel
theorem dX10_write_15 : decode cX10_write 15 = .ok (.aload_n 0, 1) := by decide +kernel
theorem dX10_write_16 : decode cX10_write 16 = .ok (.getfield 78, 3) := by decide +kernel
theorem dX10_write_19 : decode cX10_write 19 = .ok (.bipush 44, 2) := by decide +kernel
theorem dX10_write_21 : decode cX10_write 21 = .ok (.if_icmp .ne 6, 3) := by decide +kernel
theorem dX10_write_24 : decode cX10_write 24 = .ok (.bipush (-4), 2) := by decide +kernel
theorem dX10_write_26 : decode cX10_write 26 = .ok (.ireturn, 1) := by decide +kernel
theorem dX10_write_27 : decode cX10_write 27 = .ok (.aload_n 0, 1) := by decide +kernel
theorem dX10_write_28 : decode cX10_write 28 = .ok (.getfield 37, 3) := by decide +kernel
theorem dX10_write_31 : decode cX10_write 31 = .ok (.aload_n 0, 1) := by decide +kernel
theorem dX10_write_32 : decode cX10_write 32 = .ok (.getfield 78, 3) := by decide +kernel
theorem dX10_write_35 : decode cX10_write 35 = .ok (.iload_n 1, 1) := by decide +kernel
theorem dX10_write_36 : decode cX10_write 36 = .ok (.iastore, 1) := by decide +kernel
theorem dX10_write_37 : decode cX10_write 37 = .ok (.aload_n 0, 1) := by decide +kernel
theorem dX10_write_38 : decode cX10_write 38 = .ok (.dup, 1) := by decide +kernel
theorem dX10_write_39 : decode cX10_write 39 = .ok (.getfield 78, 3) := by decide +kernel
theorem dX10_write_42 : decode cX10_write 42 = .ok (.iconst 1, 1) := by decide +kernel
theorem dX10_write_43 : decode cX10_write 43 = .ok (.iadd, 1) := by decide +kernel
theorem dX10_write_44 : decode cX10_write 44 = .ok (.putfield 78, 3) := by decide +kernel
theorem dX10_write_47 : decode cX10_write 47 = .ok (.aload_n 0, 1) := by decide +kernel
theorem dX10_write_48 : decode cX10_write 48 = .ok (.getfield 78, 3) := by decide +kernel
theorem dX10_write_51 : decode cX10_write 51 = .ok (.ireturn, 1) := by decide +kernel
theorem dX10_wipe_0 : decode cX10_wipe 0 = .ok (.aload_n 0, 1) := by decide +kernel
theorem dX10_wipe_1 : decode cX10_wipe 1 = .ok (.getfield 78, 3) := by decide +kernel
theorem dX10_wipe_4 : decode cX10_wipe 4 = .ok (.istore_n 1, 1) := by decide +kernel
theorem dX10_wipe_5 : decode cX10_wipe 5 = .ok (.aload_n 0, 1) := by decide +kernel
theorem dX10_wipe_6 : decode cX10_wipe 6 = .ok (.iconst 0, 1) := by decide +kernel
theorem dX10_wipe_7 : decode cX10_wipe 7 = .ok (.putfield 78, 3) := by decide +kernel
theorem dX10_wipe_10 : decode cX10_wipe 10 = .ok (.iload_n 1, 1) := by decide +kernel
theorem dX10_wipe_11 : decode cX10_wipe 11 = .ok (.ireturn, 1) := by decide +kernel
theorem dX10_figureOf_0 : decode cX10_figureOf 0 = .ok (.aload_n 0, 1) := by decide +kernel
theorem dX10_figureOf_1 : decode cX10_figureOf 1 = .ok (.getfield 81, 3) := by decide +kernel
theorem dX10_figureOf_4 : decode cX10_figureOf 4 = .ok (.bipush (-9), 2) := by decide +kernel
theorem dX10_figureOf_6 : decode cX10_figureOf 6 = .ok (.if_icmp .ne 29, 3) := by decide +kernel
theorem dX10_figureOf_9 : decode cX10_figureOf 9 = .ok (.aload_n 0, 1) := by decide +kernel
theorem dX10_figureOf_10 : decode cX10_figureOf 10 = .ok (.getfield 84, 3) := by decide +kernel
theorem dX10_figureOf_13 : decode cX10_figureOf 13 = .ok (.aload_n 0, 1) := by decide +kernel
theorem dX10_figureOf_14 : decode cX10_figureOf 14 = .ok (.getfield 78, 3) := by decide +kernel
theorem dX10_figureOf_17 : decode cX10_figureOf 17 = .ok (.if_icmp .ge 18, 3) := by decide +kernel
theorem dX10_figureOf_20 : decode cX10_figureOf 20 = .ok (.aload_n 0, 1) := by decide +kernel
theorem dX10_figureOf_21 : decode cX10_figureOf 21 = .ok (.getfield 37, 3) := by decide +kernel
theorem dX10_figureOf_24 : decode cX10_figureOf 24 = .ok (.aload_n 0, 1) := by decide +kernel
theorem dX10_figureOf_25 : decode cX10_figureOf 25 = .ok (.getfield 84, 3) := by decide +kernel
theorem dX10_figureOf_28 : decode cX10_figureOf 28 = .ok (.iaload, 1) := by decide +kernel
theorem dX10_figureOf_29 : decode cX10_figureOf 29 = .ok (.bipush 48, 2) := by decide +kernel
theorem dX10_figureOf_31 : decode cX10_figureOf 31 = .ok (.isub, 1) := by decide +kernel
theorem dX10_figureOf_32 : decode cX10_figureOf 32 = .ok (.goto 5, 3) := by decide +kernel
theorem dX10_figureOf_35 : decode cX10_figureOf 35 = .ok (.bipush (-9), 2) := by decide +kernel
theorem dX10_figureOf_37 : decode cX10_figureOf 37 = .ok (.istore_n 2, 1) := by decide +kernel
theorem dX10_figureOf_38 : decode cX10_figureOf 38 = .ok (.iload_n 2, 1) := by decide +kernel
theorem dX10_figureOf_39 : decode cX10_figureOf 39 = .ok (.i2l, 1) := by decide +kernel
theorem dX10_figureOf_40 : decode cX10_figureOf 40 = .ok (.lconst 0, 1) := by decide +kernel
theorem dX10_figureOf_41 : decode cX10_figureOf 41 = .ok (.ldc2_w 87, 3) := by decide +kernel
theorem dX10_figureOf_44 : decode cX10_figureOf 44 = .ok (.invokestatic 74, 3) := by decide +kernel
theorem dX10_figureOf_47 : decode cX10_figureOf 47 = .ok (.ifCond .eq 11, 3) := by decide +kernel
theorem dX10_figureOf_50 : decode cX10_figureOf 50 = .ok (.iload_n 1, 1) := by decide +kernel
theorem dX10_figureOf_51 : decode cX10_figureOf 51 = .ok (.iload_n 2, 1) := by decide +kernel
theorem dX10_figureOf_52 : decode cX10_figureOf 52 = .ok (.invokestatic 89, 3) := by decide +kernel
theorem dX10_figureOf_55 : decode cX10_figureOf 55 = .ok (.ifCond .ne 29, 3) := by decide +kernel
theorem dX10_figureOf_58 : decode cX10_figureOf 58 = .ok (.aload_n 0, 1) := by decide +kernel
theorem dX10_figureOf_59 : decode cX10_figureOf 59 = .ok (.aload_n 0, 1) := by decide +kernel
theorem dX10_figureOf_60 : decode cX10_figureOf 60 = .ok (.getfield 81, 3) := by decide +kernel
theorem dX10_figureOf_63 : decode cX10_figureOf 63 = .ok (.bipush (-9), 2) := by decide +kernel
theorem dX10_figureOf_65 : decode cX10_figureOf 65 = .ok (.if_icmp .ne 10, 3) := by decide +kernel
theorem dX10_figureOf_68 : decode cX10_figureOf 68 = .ok (.aload_n 0, 1) := by decide +kernel
theorem dX10_figureOf_69 : decode cX10_figureOf 69 = .ok (.getfield 84, 3) := by decide +kernel
theorem dX10_figureOf_72 : decode cX10_figureOf 72 = .ok (.goto 7, 3) := by decide +kernel
theorem dX10_figureOf_75 : decode cX10_figureOf 75 = .ok (.aload_n 0, 1) := by decide +kernel
theorem dX10_figureOf_76 : decode cX10_figureOf 76 = .ok (.getfield 81, 3) := by decide +kernel
theorem dX10_figureOf_79 : decode cX10_figureOf 79 = .ok (.putfield 81, 3) := by decide +kernel
theorem dX10_figureOf_82 : decode cX10_figureOf 82 = .ok (.iconst 0, 1) := by decide +kernel
theorem dX10_figureOf_83 : decode cX10_figureOf 83 = .ok (.ireturn, 1) := by decide +kernel
theorem dX10_figureOf_84 : decode cX10_figureOf 84 = .ok (.aload_n 0, 1) := by decide +kernel
theorem dX10_figureOf_85 : decode cX10_figureOf 85 = .ok (.dup, 1) := by decide +kernel
theorem dX10_figureOf_86 : decode cX10_figureOf 86 = .ok (.getfield 84, 3) := by decide +kernel
theorem dX10_figureOf_89 : decode cX10_figureOf 89 = .ok (.iconst 1, 1) := by decide +kernel
theorem dX10_figureOf_90 : decode cX10_figureOf 90 = .ok (.iadd, 1) := by decide +kernel
theorem dX10_figureOf_91 : decode cX10_figureOf 91 = .ok (.putfield 84, 3) := by decide +kernel
theorem dX10_figureOf_94 : decode cX10_figureOf 94 = .ok (.iload_n 2, 1) := by decide +kernel
theorem dX10_figureOf_95 : decode cX10_figureOf 95 = .ok (.ireturn, 1) := by decide +kernel
theorem dX10_readText_0 : decode cX10_readText 0 = .ok (.aload_n 0, 1) := by decide +kernel
theorem dX10_readText_1 : decode cX10_readText 1 = .ok (.iconst 0, 1) := by decide +kernel
theorem dX10_readText_2 : decode cX10_readText 2 = .ok (.putfield 84, 3) := by decide +kernel
theorem dX10_readText_5 : decode cX10_readText 5 = .ok (.aload_n 0, 1) := by decide +kernel
theorem dX10_readText_6 : decode cX10_readText 6 = .ok (.bipush (-9), 2) := by decide +kernel
theorem dX10_readText_8 : decode cX10_readText 8 = .ok (.putfield 81, 3) := by decide +kernel
theorem dX10_readText_11 : decode cX10_readText 11 = .ok (.aload_n 0, 1) := by decide +kernel
theorem dX10_readText_12 : decode cX10_readText 12 = .ok (.iconst 0, 1) := by decide +kernel
theorem dX10_readText_13 : decode cX10_readText 13 = .ok (.putfield 93, 3) := by decide +kernel
theorem dX10_readText_16 : decode cX10_readText 16 = .ok (.aload_n 0, 1) := by decide +kernel
theorem dX10_readText_17 : decode cX10_readText 17 = .ok (.iconst 0, 1) := by decide +kernel
theorem dX10_readText_18 : decode cX10_readText 18 = .ok (.putfield 96, 3) := by decide +kernel
theorem dX10_readText_21 : decode cX10_readText 21 = .ok (.aload_n 0, 1) := by decide +kernel
theorem dX10_readText_22 : decode cX10_readText 22 = .ok (.getfield 78, 3) := by decide +kernel
theorem dX10_readText_25 : decode cX10_readText 25 = .ok (.ifCond .eq 14, 3) := by decide +kernel
theorem dX10_readText_28 : decode cX10_readText 28 = .ok (.aload_n 0, 1) := by decide +kernel
theorem dX10_readText_29 : decode cX10_readText 29 = .ok (.getfield 37, 3) := by decide +kernel
theorem dX10_readText_32 : decode cX10_readText 32 = .ok (.iconst 0, 1) := by decide +kernel
theorem dX10_readText_33 : decode cX10_readText 33 = .ok (.iaload, 1) := by decide +kernel
theorem dX10_readText_34 : decode cX10_readText 34 = .ok (.bipush 82, 2) := by decide +kernel
theorem dX10_readText_36 : decode cX10_readText 36 = .ok (.if_icmp .eq 5, 3) := by decide +kernel
theorem dX10_readText_39 : decode cX10_readText 39 = .ok (.iconst 0, 1) := by decide +kernel
theorem dX10_readText_40 : decode cX10_readText 40 = .ok (.ireturn, 1) := by decide +kernel
theorem dX10_readText_41 : decode cX10_readText 41 = .ok (.aload_n 0, 1) := by decide +kernel
theorem dX10_readText_42 : decode cX10_readText 42 = .ok (.iconst 1, 1) := by decide +kernel
theorem dX10_readText_43 : decode cX10_readText 43 = .ok (.putfield 84, 3) := by decide +kernel
theorem dX10_readText_46 : decode cX10_readText 46 = .ok (.aload_n 0, 1) := by decide +kernel
theorem dX10_readText_47 : decode cX10_readText 47 = .ok (.getfield 81, 3) := by decide +kernel
theorem dX10_readText_50 : decode cX10_readText 50 = .ok (.bipush (-9), 2) := by decide +kernel
theorem dX10_readText_52 : decode cX10_readText 52 = .ok (.if_icmp .ne 30, 3) := by decide +kernel
theorem dX10_readText_55 : decode cX10_readText 55 = .ok (.aload_n 0, 1) := by decide +kernel
theorem dX10_readText_56 : decode cX10_readText 56 = .ok (.getfield 84, 3) := by decide +kernel
theorem dX10_readText_59 : decode cX10_readText 59 = .ok (.aload_n 0, 1) := by decide +kernel
theorem dX10_readText_60 : decode cX10_readText 60 = .ok (.getfield 78, 3) := by decide +kernel
theorem dX10_readText_63 : decode cX10_readText 63 = .ok (.if_icmp .ge 19, 3) := by decide +kernel
theorem dX10_readText_66 : decode cX10_readText 66 = .ok (.aload_n 0, 1) := by decide +kernel
theorem dX10_readText_67 : decode cX10_readText 67 = .ok (.aload_n 0, 1) := by decide +kernel
theorem dX10_readText_68 : decode cX10_readText 68 = .ok (.getfield 37, 3) := by decide +kernel
theorem dX10_readText_71 : decode cX10_readText 71 = .ok (.aload_n 0, 1) := by decide +kernel
theorem dX10_readText_72 : decode cX10_readText 72 = .ok (.getfield 84, 3) := by decide +kernel
theorem dX10_readText_75 : decode cX10_readText 75 = .ok (.iaload, 1) := by decide +kernel
theorem dX10_readText_76 : decode cX10_readText 76 = .ok (.invokevirtual 99, 3) := by decide +kernel
theorem dX10_readText_79 : decode cX10_readText 79 = .ok (.goto (-33), 3) := by decide +kernel
theorem dX10_readText_82 : decode cX10_readText 82 = .ok (.aload_n 0, 1) := by decide +kernel
theorem dX10_readText_83 : decode cX10_readText 83 = .ok (.getfield 81, 3) := by decide +kernel
theorem dX10_readText_86 : decode cX10_readText 86 = .ok (.ireturn, 1) := by decide +kernel
theorem dX10_readPart_0 : decode cX10_readPart 0 = .ok (.iload_n 1, 1) := by decide +kernel
theorem dX10_readPart_1 : decode cX10_readPart 1 = .ok (.bipush 84, 2) := by decide +kernel
theorem dX10_readPart_3 : decode cX10_readPart 3 = .ok (.if_icmp .ne 69, 3) := by decide +kernel
theorem dX10_readPart_6 : decode cX10_readPart 6 = .ok (.aload_n 0, 1) := by decide +kernel
theorem dX10_readPart_7 : decode cX10_readPart 7 = .ok (.getfield 93, 3) := by decide +kernel
theorem dX10_readPart_10 : decode cX10_readPart 10 = .ok (.iconst 4, 1) := by decide +kernel
theorem dX10_readPart_11 : decode cX10_readPart 11 = .ok (.if_icmp .ge 61, 3) := by decide +kernel
theorem dX10_readPart_14 : decode cX10_readPart 14 = .ok (.aload_n 0, 1) := by decide +kernel
theorem dX10_readPart_15 : decode cX10_readPart 15 = .ok (.dup, 1) := by decide +kernel
theorem dX10_readPart_16 : decode cX10_readPart 16 = .ok (.getfield 84, 3) := by decide +kernel
theorem dX10_readPart_19 : decode cX10_readPart 19 = .ok (.iconst 1, 1) := by decide +kernel
theorem dX10_readPart_20 : decode cX10_readPart 20 = .ok (.iadd, 1) := by decide +kernel
theorem dX10_readPart_21 : decode cX10_readPart 21 = .ok (.putfield 84, 3) := by decide +kernel
theorem dX10_readPart_24 : decode cX10_readPart 24 = .ok (.aload_n 0, 1) := by decide +kernel
theorem dX10_readPart_25 : decode cX10_readPart 25 = .ok (.bipush 28, 2) := by decide +kernel
theorem dX10_readPart_27 : decode cX10_readPart 27 = .ok (.invokevirtual 103, 3) := by decide +kernel
theorem dX10_readPart_30 : decode cX10_readPart 30 = .ok (.istore_n 2, 1) := by decide +kernel
theorem dX10_readPart_31 : decode cX10_readPart 31 = .ok (.aload_n 0, 1) := by decide +kernel
theorem dX10_readPart_32 : decode cX10_readPart 32 = .ok (.getfield 28, 3) := by decide +kernel
theorem dX10_readPart_35 : decode cX10_readPart 35 = .ok (.aload_n 0, 1) := by decide +kernel
theorem dX10_readPart_36 : decode cX10_readPart 36 = .ok (.getfield 93, 3) := by decide +kernel
theorem dX10_readPart_39 : decode cX10_readPart 39 = .ok (.iload_n 2, 1) := by decide +kernel
theorem dX10_readPart_40 : decode cX10_readPart 40 = .ok (.iastore, 1) := by decide +kernel
theorem dX10_readPart_41 : decode cX10_readPart 41 = .ok (.aload_n 0, 1) := by decide +kernel
theorem dX10_readPart_42 : decode cX10_readPart 42 = .ok (.getfield 31, 3) := by decide +kernel
theorem dX10_readPart_45 : decode cX10_readPart 45 = .ok (.aload_n 0, 1) := by decide +kernel
theorem dX10_readPart_46 : decode cX10_readPart 46 = .ok (.getfield 93, 3) := by decide +kernel
theorem dX10_readPart_49 : decode cX10_readPart 49 = .ok (.aload_n 0, 1) := by decide +kernel
theorem dX10_readPart_50 : decode cX10_readPart 50 = .ok (.iconst 1, 1) := by decide +kernel
theorem dX10_readPart_51 : decode cX10_readPart 51 = .ok (.iload_n 2, 1) := by decide +kernel
theorem dX10_readPart_52 : decode cX10_readPart 52 = .ok (.ishl, 1) := by decide +kernel
theorem dX10_readPart_53 : decode cX10_readPart 53 = .ok (.iconst 1, 1) := by decide +kernel
theorem dX10_readPart_54 : decode cX10_readPart 54 = .ok (.isub, 1) := by decide +kernel
theorem dX10_readPart_55 : decode cX10_readPart 55 = .ok (.invokevirtual 103, 3) := by decide +kernel
theorem dX10_readPart_58 : decode cX10_readPart 58 = .ok (.iastore, 1) := by decide +kernel
theorem dX10_readPart_59 : decode cX10_readPart 59 = .ok (.aload_n 0, 1) := by decide +kernel
theorem dX10_readPart_60 : decode cX10_readPart 60 = .ok (.dup, 1) := by decide +kernel
theorem dX10_readPart_61 : decode cX10_readPart 61 = .ok (.getfield 93, 3) := by decide +kernel
theorem dX10_readPart_64 : decode cX10_readPart 64 = .ok (.iconst 1, 1) := by decide +kernel
theorem dX10_readPart_65 : decode cX10_readPart 65 = .ok (.iadd, 1) := by decide +kernel
theorem dX10_readPart_66 : decode cX10_readPart 66 = .ok (.putfield 93, 3) := by decide +kernel
theorem dX10_readPart_69 : decode cX10_readPart 69 = .ok (.goto 176, 3) := by decide +kernel
theorem dX10_readPart_72 : decode cX10_readPart 72 = .ok (.iload_n 1, 1) := by decide +kernel
theorem dX10_readPart_73 : decode cX10_readPart 73 = .ok (.bipush 66, 2) := by decide +kernel
theorem dX10_readPart_75 : decode cX10_readPart 75 = .ok (.if_icmp .ne 162, 3) := by decide +kernel
theorem dX10_readPart_78 : decode cX10_readPart 78 = .ok (.aload_n 0, 1) := by decide +kernel
theorem dX10_readPart_79 : decode cX10_readPart 79 = .ok (.getfield 96, 3) := by decide +kernel
theorem dX10_readPart_82 : decode cX10_readPart 82 = .ok (.bipush 6, 2) := by decide +kernel
theorem dX10_readPart_84 : decode cX10_readPart 84 = .ok (.if_icmp .ge 153, 3) := by decide +kernel
theorem dX10_readPart_87 : decode cX10_readPart 87 = .ok (.aload_n 0, 1) := by decide +kernel
theorem dX10_readPart_88 : decode cX10_readPart 88 = .ok (.getfield 93, 3) := by decide +kernel
theorem dX10_readPart_91 : decode cX10_readPart 91 = .ok (.ifCond .le 146, 3) := by decide +kernel
theorem dX10_readPart_94 : decode cX10_readPart 94 = .ok (.aload_n 0, 1) := by decide +kernel
theorem dX10_readPart_95 : decode cX10_readPart 95 = .ok (.dup, 1) := by decide +kernel
theorem dX10_readPart_96 : decode cX10_readPart 96 = .ok (.getfield 84, 3) := by decide +kernel
theorem dX10_readPart_99 : decode cX10_readPart 99 = .ok (.iconst 1, 1) := by decide +kernel
theorem dX10_readPart_100 : decode cX10_readPart 100 = .ok (.iadd, 1) := by decide +kernel
theorem dX10_readPart_101 : decode cX10_readPart 101 = .ok (.putfield 84, 3) := by decide +kernel
theorem dX10_readPart_104 : decode cX10_readPart 104 = .ok (.iconst 1, 1) := by decide +kernel
theorem dX10_readPart_105 : decode cX10_readPart 105 = .ok (.aload_n 0, 1) := by decide +kernel
theorem dX10_readPart_106 : decode cX10_readPart 106 = .ok (.getfield 93, 3) := by decide +kernel
theorem dX10_readPart_109 : decode cX10_readPart 109 = .ok (.ishl, 1) := by decide +kernel
theorem dX10_readPart_110 : decode cX10_readPart 110 = .ok (.iconst 1, 1) := by decide +kernel
theorem dX10_readPart_111 : decode cX10_readPart 111 = .ok (.isub, 1) := by decide +kernel
theorem dX10_readPart_112 : decode cX10_readPart 112 = .ok (.istore_n 2, 1) := by decide +kernel
theorem dX10_readPart_113 : decode cX10_readPart 113 = .ok (.aload_n 0, 1) := by decide +kernel
theorem dX10_readPart_114 : decode cX10_readPart 114 = .ok (.iload_n 2, 1) := by decide +kernel
theorem dX10_readPart_115 : decode cX10_readPart 115 = .ok (.invokevirtual 103, 3) := by decide +kernel
theorem dX10_readPart_118 : decode cX10_readPart 118 = .ok (.istore_n 3, 1) := by decide +kernel
theorem dX10_readPart_119 : decode cX10_readPart 119 = .ok (.aload_n 0, 1) := by decide +kernel
theorem dX10_readPart_120 : decode cX10_readPart 120 = .ok (.aload_n 0, 1) := by decide +kernel
theorem dX10_readPart_121 : decode cX10_readPart 121 = .ok (.getfield 93, 3) := by decide +kernel
theorem dX10_readPart_124 : decode cX10_readPart 124 = .ok (.iconst 1, 1) := by decide +kernel
theorem dX10_readPart_125 : decode cX10_readPart 125 = .ok (.if_icmp .le 8, 3) := by decide +kernel
theorem dX10_readPart_128 : decode cX10_readPart 128 = .ok (.bipush 15, 2) := by decide +kernel
theorem dX10_readPart_130 : decode cX10_readPart 130 = .ok (.goto 5, 3) := by decide +kernel
theorem dX10_readPart_133 : decode cX10_readPart 133 = .ok (.bipush 7, 2) := by decide +kernel
theorem dX10_readPart_135 : decode cX10_readPart 135 = .ok (.invokevirtual 103, 3) := by decide +kernel
theorem dX10_readPart_138 : decode cX10_readPart 138 = .ok (.istore 4, 2) := by decide +kernel
theorem dX10_readPart_140 : decode cX10_readPart 140 = .ok (.iload 4, 2) := by decide +kernel
theorem dX10_readPart_142 : decode cX10_readPart 142 = .ok (.iconst 1, 1) := by decide +kernel
theorem dX10_readPart_143 : decode cX10_readPart 143 = .ok (.if_icmp .ne 16, 3) := by decide +kernel
theorem dX10_readPart_146 : decode cX10_readPart 146 = .ok (.iconst 1, 1) := by decide +kernel
theorem dX10_readPart_147 : decode cX10_readPart 147 = .ok (.aload_n 0, 1) := by decide +kernel
theorem dX10_readPart_148 : decode cX10_readPart 148 = .ok (.getfield 28, 3) := by decide +kernel
theorem dX10_readPart_151 : decode cX10_readPart 151 = .ok (.iload_n 3, 1) := by decide +kernel
theorem dX10_readPart_152 : decode cX10_readPart 152 = .ok (.iaload, 1) := by decide +kernel
theorem dX10_readPart_153 : decode cX10_readPart 153 = .ok (.ishl, 1) := by decide +kernel
theorem dX10_readPart_154 : decode cX10_readPart 154 = .ok (.iconst 1, 1) := by decide +kernel
theorem dX10_readPart_155 : decode cX10_readPart 155 = .ok (.isub, 1) := by decide +kernel
theorem dX10_readPart_156 : decode cX10_readPart 156 = .ok (.goto 20, 3) := by decide +kernel
theorem dX10_readPart_159 : decode cX10_readPart 159 = .ok (.iload 4, 2) := by decide +kernel
theorem dX10_readPart_161 : decode cX10_readPart 161 = .ok (.iconst 3, 1) := by decide +kernel
theorem dX10_readPart_162 : decode cX10_readPart 162 = .ok (.if_icmp .ne 13, 3) := by decide +kernel
theorem dX10_readPart_165 : decode cX10_readPart 165 = .ok (.iload_n 2, 1) := by decide +kernel
theorem dX10_readPart_166 : decode cX10_readPart 166 = .ok (.iconst 1, 1) := by decide +kernel
theorem dX10_readPart_167 : decode cX10_readPart 167 = .ok (.iload_n 3, 1) := by decide +kernel
theorem dX10_readPart_168 : decode cX10_readPart 168 = .ok (.ishl, 1) := by decide +kernel
theorem dX10_readPart_169 : decode cX10_readPart 169 = .ok (.iconst (-1), 1) := by decide +kernel
theorem dX10_readPart_170 : decode cX10_readPart 170 = .ok (.ixor, 1) := by decide +kernel
theorem dX10_readPart_171 : decode cX10_readPart 171 = .ok (.iand, 1) := by decide +kernel
theorem dX10_readPart_172 : decode cX10_readPart 172 = .ok (.goto 4, 3) := by decide +kernel
theorem dX10_readPart_175 : decode cX10_readPart 175 = .ok (.iconst 1, 1) := by decide +kernel
theorem dX10_readPart_176 : decode cX10_readPart 176 = .ok (.istore 5, 2) := by decide +kernel
theorem dX10_readPart_178 : decode cX10_readPart 178 = .ok (.aload_n 0, 1) := by decide +kernel
theorem dX10_readPart_179 : decode cX10_readPart 179 = .ok (.getfield 34, 3) := by decide +kernel
theorem dX10_readPart_182 : decode cX10_readPart 182 = .ok (.iconst 3, 1) := by decide +kernel
theorem dX10_readPart_183 : decode cX10_readPart 183 = .ok (.aload_n 0, 1) := by decide +kernel
theorem dX10_readPart_184 : decode cX10_readPart 184 = .ok (.getfield 96, 3) := by decide +kernel
theorem dX10_readPart_187 : decode cX10_readPart 187 = .ok (.imul, 1) := by decide +kernel
theorem dX10_readPart_188 : decode cX10_readPart 188 = .ok (.iload_n 3, 1) := by decide +kernel
theorem dX10_readPart_189 : decode cX10_readPart 189 = .ok (.iastore, 1) := by decide +kernel
theorem dX10_readPart_190 : decode cX10_readPart 190 = .ok (.aload_n 0, 1) := by decide +kernel
theorem dX10_readPart_191 : decode cX10_readPart 191 = .ok (.getfield 34, 3) := by decide +kernel
theorem dX10_readPart_194 : decode cX10_readPart 194 = .ok (.iconst 3, 1) := by decide +kernel
theorem dX10_readPart_195 : decode cX10_readPart 195 = .ok (.aload_n 0, 1) := by decide +kernel
theorem dX10_readPart_196 : decode cX10_readPart 196 = .ok (.getfield 96, 3) := by decide +kernel
theorem dX10_readPart_199 : decode cX10_readPart 199 = .ok (.imul, 1) := by decide +kernel
theorem dX10_readPart_200 : decode cX10_readPart 200 = .ok (.iconst 1, 1) := by decide +kernel
theorem dX10_readPart_201 : decode cX10_readPart 201 = .ok (.iadd, 1) := by decide +kernel
theorem dX10_readPart_202 : decode cX10_readPart 202 = .ok (.iload 4, 2) := by decide +kernel
theorem dX10_readPart_204 : decode cX10_readPart 204 = .ok (.iastore, 1) := by decide +kernel
theorem dX10_readPart_205 : decode cX10_readPart 205 = .ok (.aload_n 0, 1) := by decide +kernel
theorem dX10_readPart_206 : decode cX10_readPart 206 = .ok (.getfield 34, 3) := by decide +kernel
theorem dX10_readPart_209 : decode cX10_readPart 209 = .ok (.iconst 3, 1) := by decide +kernel
theorem dX10_readPart_210 : decode cX10_readPart 210 = .ok (.aload_n 0, 1) := by decide +kernel
theorem dX10_readPart_211 : decode cX10_readPart 211 = .ok (.getfield 96, 3) := by decide +kernel
theorem dX10_readPart_214 : decode cX10_readPart 214 = .ok (.imul, 1) := by decide +kernel
theorem dX10_readPart_215 : decode cX10_readPart 215 = .ok (.iconst 2, 1) := by decide +kernel
theorem dX10_readPart_216 : decode cX10_readPart 216 = .ok (.iadd, 1) := by decide +kernel
theorem dX10_readPart_217 : decode cX10_readPart 217 = .ok (.aload_n 0, 1) := by decide +kernel
theorem dX10_readPart_218 : decode cX10_readPart 218 = .ok (.iload 5, 2) := by decide +kernel
theorem dX10_readPart_220 : decode cX10_readPart 220 = .ok (.invokevirtual 103, 3) := by decide +kernel
theorem dX10_readPart_223 : decode cX10_readPart 223 = .ok (.iastore, 1) := by decide +kernel
theorem dX10_readPart_224 : decode cX10_readPart 224 = .ok (.aload_n 0, 1) := by decide +kernel
theorem dX10_readPart_225 : decode cX10_readPart 225 = .ok (.dup, 1) := by decide +kernel
theorem dX10_readPart_226 : decode cX10_readPart 226 = .ok (.getfield 96, 3) := by decide +kernel
theorem dX10_readPart_229 : decode cX10_readPart 229 = .ok (.iconst 1, 1) := by decide +kernel
theorem dX10_readPart_230 : decode cX10_readPart 230 = .ok (.iadd, 1) := by decide +kernel
theorem dX10_readPart_231 : decode cX10_readPart 231 = .ok (.putfield 96, 3) := by decide +kernel
theorem dX10_readPart_234 : decode cX10_readPart 234 = .ok (.goto 11, 3) := by decide +kernel
theorem dX10_readPart_237 : decode cX10_readPart 237 = .ok (.aload_n 0, 1) := by decide +kernel
theorem dX10_readPart_238 : decode cX10_readPart 238 = .ok (.aload_n 0, 1) := by decide +kernel
theorem dX10_readPart_239 : decode cX10_readPart 239 = .ok (.getfield 84, 3) := by decide +kernel
theorem dX10_readPart_242 : decode cX10_readPart 242 = .ok (.putfield 81, 3) := by decide +kernel
theorem dX10_readPart_245 : decode cX10_readPart 245 = .ok (.return_, 1) := by decide +kernel
theorem dX10_fault_0 : decode cX10_fault 0 = .ok (.aload_n 0, 1) := by decide +kernel
theorem dX10_fault_1 : decode cX10_fault 1 = .ok (.invokevirtual 107, 3) := by decide +kernel
theorem dX10_fault_4 : decode cX10_fault 4 = .ok (.ireturn, 1) := by decide +kernel
theorem dX10_room_0 : decode cX10_room 0 = .ok (.aload_n 0, 1) := by decide +kernel
theorem dX10_room_1 : decode cX10_room 1 = .ok (.invokevirtual 107, 3) := by decide +kernel
theorem dX10_room_4 : decode cX10_room 4 = .ok (.bipush (-9), 2) := by decide +kernel
theorem dX10_room_6 : decode cX10_room 6 = .ok (.if_icmp .eq 6, 3) := by decide +kernel
theorem dX10_room_9 : decode cX10_room 9 = .ok (.bipush (-3), 2) := by decide +kernel
theorem dX10_room_11 : decode cX10_room 11 = .ok (.ireturn, 1) := by decide +kernel
theorem dX10_room_12 : decode cX10_room 12 = .ok (.aload_n 0, 1) := by decide +kernel
theorem dX10_room_13 : decode cX10_room 13 = .ok (.aload_n 0, 1) := by decide +kernel
theorem dX10_room_14 : decode cX10_room 14 = .ok (.getfield 93, 3) := by decide +kernel
theorem dX10_room_17 : decode cX10_room 17 = .ok (.putfield 111, 3) := by decide +kernel
theorem dX10_room_20 : decode cX10_room 20 = .ok (.aload_n 0, 1) := by decide +kernel
theorem dX10_room_21 : decode cX10_room 21 = .ok (.aload_n 0, 1) := by decide +kernel
theorem dX10_room_22 : decode cX10_room 22 = .ok (.getfield 96, 3) := by decide +kernel
theorem dX10_room_25 : decode cX10_room 25 = .ok (.putfield 114, 3) := by decide +kernel
theorem dX10_room_28 : decode cX10_room 28 = .ok (.aload_n 0, 1) := by decide +kernel
theorem dX10_room_29 : decode cX10_room 29 = .ok (.iconst 1, 1) := by decide +kernel
theorem dX10_room_30 : decode cX10_room 30 = .ok (.putfield 68, 3) := by decide +kernel
theorem dX10_room_33 : decode cX10_room 33 = .ok (.aload_n 0, 1) := by decide +kernel
theorem dX10_room_34 : decode cX10_room 34 = .ok (.getfield 111, 3) := by decide +kernel
theorem dX10_room_37 : decode cX10_room 37 = .ok (.iconst 1, 1) := by decide +kernel
theorem dX10_room_38 : decode cX10_room 38 = .ok (.isub, 1) := by decide +kernel
theorem dX10_room_39 : decode cX10_room 39 = .ok (.istore_n 1, 1) := by decide +kernel
theorem dX10_room_40 : decode cX10_room 40 = .ok (.iload_n 1, 1) := by decide +kernel
theorem dX10_room_41 : decode cX10_room 41 = .ok (.ifCond .lt 46, 3) := by decide +kernel
theorem dX10_room_44 : decode cX10_room 44 = .ok (.aload_n 0, 1) := by decide +kernel
theorem dX10_room_45 : decode cX10_room 45 = .ok (.getfield 7, 3) := by decide +kernel
theorem dX10_room_48 : decode cX10_room 48 = .ok (.iload_n 1, 1) := by decide +kernel
theorem dX10_room_49 : decode cX10_room 49 = .ok (.aload_n 0, 1) := by decide +kernel
theorem dX10_room_50 : decode cX10_room 50 = .ok (.getfield 28, 3) := by decide +kernel
theorem dX10_room_53 : decode cX10_room 53 = .ok (.iload_n 1, 1) := by decide +kernel
theorem dX10_room_54 : decode cX10_room 54 = .ok (.iaload, 1) := by decide +kernel
theorem dX10_room_55 : decode cX10_room 55 = .ok (.iastore, 1) := by decide +kernel
theorem dX10_room_56 : decode cX10_room 56 = .ok (.aload_n 0, 1) := by decide +kernel
theorem dX10_room_57 : decode cX10_room 57 = .ok (.getfield 13, 3) := by decide +kernel
theorem dX10_room_60 : decode cX10_room 60 = .ok (.iload_n 1, 1) := by decide +kernel
theorem dX10_room_61 : decode cX10_room 61 = .ok (.aload_n 0, 1) := by decide +kernel
theorem dX10_room_62 : decode cX10_room 62 = .ok (.getfield 68, 3) := by decide +kernel
theorem dX10_room_65 : decode cX10_room 65 = .ok (.iastore, 1) := by decide +kernel
theorem dX10_room_66 : decode cX10_room 66 = .ok (.aload_n 0, 1) := by decide +kernel
theorem dX10_room_67 : decode cX10_room 67 = .ok (.dup, 1) := by decide +kernel
theorem dX10_room_68 : decode cX10_room 68 = .ok (.getfield 68, 3) := by decide +kernel
theorem dX10_room_71 : decode cX10_room 71 = .ok (.aload_n 0, 1) := by decide +kernel
theorem dX10_room_72 : decode cX10_room 72 = .ok (.getfield 7, 3) := by decide +kernel
theorem dX10_room_75 : decode cX10_room 75 = .ok (.iload_n 1, 1) := by decide +kernel
theorem dX10_room_76 : decode cX10_room 76 = .ok (.iaload, 1) := by decide +kernel
theorem dX10_room_77 : decode cX10_room 77 = .ok (.imul, 1) := by decide +kernel
theorem dX10_room_78 : decode cX10_room 78 = .ok (.putfield 68, 3) := by decide +kernel
theorem dX10_room_81 : decode cX10_room 81 = .ok (.iinc 1 (-1), 3) := by decide +kernel
theorem dX10_room_84 : decode cX10_room 84 = .ok (.goto (-44), 3) := by decide +kernel
theorem dX10_room_87 : decode cX10_room 87 = .ok (.aload_n 0, 1) := by decide +kernel
theorem dX10_room_88 : decode cX10_room 88 = .ok (.iconst 0, 1) := by decide +kernel
theorem dX10_room_89 : decode cX10_room 89 = .ok (.putfield 117, 3) := by decide +kernel
theorem dX10_room_92 : decode cX10_room 92 = .ok (.iconst 0, 1) := by decide +kernel
theorem dX10_room_93 : decode cX10_room 93 = .ok (.istore_n 1, 1) := by decide +kernel
theorem dX10_room_94 : decode cX10_room 94 = .ok (.iload_n 1, 1) := by decide +kernel
theorem dX10_room_95 : decode cX10_room 95 = .ok (.aload_n 0, 1) := by decide +kernel
theorem dX10_room_96 : decode cX10_room 96 = .ok (.getfield 111, 3) := by decide +kernel
theorem dX10_room_99 : decode cX10_room 99 = .ok (.if_icmp .ge 31, 3) := by decide +kernel
theorem dX10_room_102 : decode cX10_room 102 = .ok (.aload_n 0, 1) := by decide +kernel
theorem dX10_room_103 : decode cX10_room 103 = .ok (.dup, 1) := by decide +kernel
theorem dX10_room_104 : decode cX10_room 104 = .ok (.getfield 117, 3) := by decide +kernel
theorem dX10_room_107 : decode cX10_room 107 = .ok (.aload_n 0, 1) := by decide +kernel
theorem dX10_room_108 : decode cX10_room 108 = .ok (.getfield 13, 3) := by decide +kernel
theorem dX10_room_111 : decode cX10_room 111 = .ok (.iload_n 1, 1) := by decide +kernel
theorem dX10_room_112 : decode cX10_room 112 = .ok (.iaload, 1) := by decide +kernel
theorem dX10_room_113 : decode cX10_room 113 = .ok (.aload_n 0, 1) := by decide +kernel
theorem dX10_room_114 : decode cX10_room 114 = .ok (.getfield 31, 3) := by decide +kernel
theorem dX10_room_117 : decode cX10_room 117 = .ok (.iload_n 1, 1) := by decide +kernel
theorem dX10_room_118 : decode cX10_room 118 = .ok (.iaload, 1) := by decide +kernel
theorem dX10_room_119 : decode cX10_room 119 = .ok (.imul, 1) := by decide +kernel
theorem dX10_room_120 : decode cX10_room 120 = .ok (.iadd, 1) := by decide +kernel
theorem dX10_room_121 : decode cX10_room 121 = .ok (.putfield 117, 3) := by decide +kernel
theorem dX10_room_124 : decode cX10_room 124 = .ok (.iinc 1 1, 3) := by decide +kernel
theorem dX10_room_127 : decode cX10_room 127 = .ok (.goto (-33), 3) := by decide +kernel
theorem dX10_room_130 : decode cX10_room 130 = .ok (.iconst 0, 1) := by decide +kernel
theorem dX10_room_131 : decode cX10_room 131 = .ok (.istore_n 1, 1) := by decide +kernel
theorem dX10_room_132 : decode cX10_room 132 = .ok (.iload_n 1, 1) := by decide +kernel
theorem dX10_room_133 : decode cX10_room 133 = .ok (.aload_n 0, 1) := by decide +kernel
theorem dX10_room_134 : decode cX10_room 134 = .ok (.getfield 114, 3) := by decide +kernel
theorem dX10_room_137 : decode cX10_room 137 = .ok (.if_icmp .ge 89, 3) := by decide +kernel
theorem dX10_room_140 : decode cX10_room 140 = .ok (.aload_n 0, 1) := by decide +kernel
theorem dX10_room_141 : decode cX10_room 141 = .ok (.getfield 16, 3) := by decide +kernel
theorem dX10_room_144 : decode cX10_room 144 = .ok (.iload_n 1, 1) := by decide +kernel
theorem dX10_room_145 : decode cX10_room 145 = .ok (.aload_n 0, 1) := by decide +kernel
theorem dX10_room_146 : decode cX10_room 146 = .ok (.getfield 34, 3) := by decide +kernel
theorem dX10_room_149 : decode cX10_room 149 = .ok (.iconst 3, 1) := by decide +kernel
theorem dX10_room_150 : decode cX10_room 150 = .ok (.iload_n 1, 1) := by decide +kernel
theorem dX10_room_151 : decode cX10_room 151 = .ok (.imul, 1) := by decide +kernel
theorem dX10_room_152 : decode cX10_room 152 = .ok (.iaload, 1) := by decide +kernel
theorem dX10_room_153 : decode cX10_room 153 = .ok (.iastore, 1) := by decide +kernel
theorem dX10_room_154 : decode cX10_room 154 = .ok (.aload_n 0, 1) := by decide +kernel
theorem dX10_room_155 : decode cX10_room 155 = .ok (.getfield 19, 3) := by decide +kernel
theorem dX10_room_158 : decode cX10_room 158 = .ok (.iload_n 1, 1) := by decide +kernel
theorem dX10_room_159 : decode cX10_room 159 = .ok (.aload_n 0, 1) := by decide +kernel
theorem dX10_room_160 : decode cX10_room 160 = .ok (.getfield 34, 3) := by decide +kernel
theorem dX10_room_163 : decode cX10_room 163 = .ok (.iconst 3, 1) := by decide +kernel
theorem dX10_room_164 : decode cX10_room 164 = .ok (.iload_n 1, 1) := by decide +kernel
theorem dX10_room_165 : decode cX10_room 165 = .ok (.imul, 1) := by decide +kernel
theorem dX10_room_166 : decode cX10_room 166 = .ok (.iconst 1, 1) := by decide +kernel
theorem dX10_room_167 : decode cX10_room 167 = .ok (.iadd, 1) := by decide +kernel
theorem dX10_room_168 : decode cX10_room 168 = .ok (.iaload, 1) := by decide +kernel
theorem dX10_room_169 : decode cX10_room 169 = .ok (.iastore, 1) := by decide +kernel
theorem dX10_room_170 : decode cX10_room 170 = .ok (.aload_n 0, 1) := by decide +kernel
theorem dX10_room_171 : decode cX10_room 171 = .ok (.getfield 22, 3) := by decide +kernel
theorem dX10_room_174 : decode cX10_room 174 = .ok (.iload_n 1, 1) := by decide +kernel
theorem dX10_room_175 : decode cX10_room 175 = .ok (.aload_n 0, 1) := by decide +kernel
theorem dX10_room_176 : decode cX10_room 176 = .ok (.getfield 34, 3) := by decide +kernel
theorem dX10_room_179 : decode cX10_room 179 = .ok (.iconst 3, 1) := by decide +kernel
theorem dX10_room_180 : decode cX10_room 180 = .ok (.iload_n 1, 1) := by decide +kernel
theorem dX10_room_181 : decode cX10_room 181 = .ok (.imul, 1) := by decide +kernel
theorem dX10_room_182 : decode cX10_room 182 = .ok (.iconst 2, 1) := by decide +kernel
theorem dX10_room_183 : decode cX10_room 183 = .ok (.iadd, 1) := by decide +kernel
theorem dX10_room_184 : decode cX10_room 184 = .ok (.iaload, 1) := by decide +kernel
theorem dX10_room_185 : decode cX10_room 185 = .ok (.iastore, 1) := by decide +kernel
theorem dX10_room_186 : decode cX10_room 186 = .ok (.iconst 0, 1) := by decide +kernel
theorem dX10_room_187 : decode cX10_room 187 = .ok (.istore_n 2, 1) := by decide +kernel
theorem dX10_room_188 : decode cX10_room 188 = .ok (.iload_n 2, 1) := by decide +kernel
theorem dX10_room_189 : decode cX10_room 189 = .ok (.aload_n 0, 1) := by decide +kernel
theorem dX10_room_190 : decode cX10_room 190 = .ok (.getfield 68, 3) := by decide +kernel
theorem dX10_room_193 : decode cX10_room 193 = .ok (.if_icmp .ge 27, 3) := by decide +kernel
theorem dX10_room_196 : decode cX10_room 196 = .ok (.aload_n 0, 1) := by decide +kernel
theorem dX10_room_197 : decode cX10_room 197 = .ok (.getfield 25, 3) := by decide +kernel
theorem dX10_room_200 : decode cX10_room 200 = .ok (.sipush 256, 3) := by decide +kernel
theorem dX10_room_203 : decode cX10_room 203 = .ok (.iload_n 1, 1) := by decide +kernel
theorem dX10_room_204 : decode cX10_room 204 = .ok (.imul, 1) := by decide +kernel
theorem dX10_room_205 : decode cX10_room 205 = .ok (.iload_n 2, 1) := by decide +kernel
theorem dX10_room_206 : decode cX10_room 206 = .ok (.iadd, 1) := by decide +kernel
theorem dX10_room_207 : decode cX10_room 207 = .ok (.aload_n 0, 1) := by decide +kernel
theorem dX10_room_208 : decode cX10_room 208 = .ok (.iload_n 1, 1) := by decide +kernel
theorem dX10_room_209 : decode cX10_room 209 = .ok (.iload_n 2, 1) := by decide +kernel
theorem dX10_room_210 : decode cX10_room 210 = .ok (.invokevirtual 120, 3) := by decide +kernel
theorem dX10_room_213 : decode cX10_room 213 = .ok (.iastore, 1) := by decide +kernel
theorem dX10_room_214 : decode cX10_room 214 = .ok (.iinc 2 1, 3) := by decide +kernel
theorem dX10_room_217 : decode cX10_room 217 = .ok (.goto (-29), 3) := by decide +kernel
theorem dX10_room_220 : decode cX10_room 220 = .ok (.iinc 1 1, 3) := by decide +kernel
theorem dX10_room_223 : decode cX10_room 223 = .ok (.goto (-91), 3) := by decide +kernel
theorem dX10_room_226 : decode cX10_room 226 = .ok (.aload_n 0, 1) := by decide +kernel
theorem dX10_room_227 : decode cX10_room 227 = .ok (.aload_n 0, 1) := by decide +kernel
theorem dX10_room_228 : decode cX10_room 228 = .ok (.getfield 117, 3) := by decide +kernel
theorem dX10_room_231 : decode cX10_room 231 = .ok (.putfield 124, 3) := by decide +kernel
theorem dX10_room_234 : decode cX10_room 234 = .ok (.aload_n 0, 1) := by decide +kernel
theorem dX10_room_235 : decode cX10_room 235 = .ok (.iconst 0, 1) := by decide +kernel
theorem dX10_room_236 : decode cX10_room 236 = .ok (.putfield 127, 3) := by decide +kernel
theorem dX10_room_239 : decode cX10_room 239 = .ok (.aload_n 0, 1) := by decide +kernel
theorem dX10_room_240 : decode cX10_room 240 = .ok (.iconst 0, 1) := by decide +kernel
theorem dX10_room_241 : decode cX10_room 241 = .ok (.putfield 130, 3) := by decide +kernel
theorem dX10_room_244 : decode cX10_room 244 = .ok (.aload_n 0, 1) := by decide +kernel
theorem dX10_room_245 : decode cX10_room 245 = .ok (.getfield 61, 3) := by decide +kernel
theorem dX10_room_248 : decode cX10_room 248 = .ok (.iconst 0, 1) := by decide +kernel
theorem dX10_room_249 : decode cX10_room 249 = .ok (.iconst 0, 1) := by decide +kernel
theorem dX10_room_250 : decode cX10_room 250 = .ok (.bastore, 1) := by decide +kernel
theorem dX10_room_251 : decode cX10_room 251 = .ok (.aload_n 0, 1) := by decide +kernel
theorem dX10_room_252 : decode cX10_room 252 = .ok (.getfield 61, 3) := by decide +kernel
theorem dX10_room_255 : decode cX10_room 255 = .ok (.iconst 1, 1) := by decide +kernel
theorem dX10_room_256 : decode cX10_room 256 = .ok (.iconst 0, 1) := by decide +kernel
theorem dX10_room_257 : decode cX10_room 257 = .ok (.bastore, 1) := by decide +kernel
theorem dX10_room_258 : decode cX10_room 258 = .ok (.bipush 10, 2) := by decide +kernel
theorem dX10_room_260 : decode cX10_room 260 = .ok (.aload_n 0, 1) := by decide +kernel
theorem dX10_room_261 : decode cX10_room 261 = .ok (.getfield 111, 3) := by decide +kernel
theorem dX10_room_264 : decode cX10_room 264 = .ok (.imul, 1) := by decide +kernel
theorem dX10_room_265 : decode cX10_room 265 = .ok (.aload_n 0, 1) := by decide +kernel
theorem dX10_room_266 : decode cX10_room 266 = .ok (.getfield 114, 3) := by decide +kernel
theorem dX10_room_269 : decode cX10_room 269 = .ok (.iadd, 1) := by decide +kernel
theorem dX10_room_270 : decode cX10_room 270 = .ok (.ireturn, 1) := by decide +kernel
theorem dX10_stateIn_0 : decode cX10_stateIn 0 = .ok (.iload_n 1, 1) := by decide +kernel
theorem dX10_stateIn_1 : decode cX10_stateIn 1 = .ok (.aload_n 0, 1) := by decide +kernel
theorem dX10_stateIn_2 : decode cX10_stateIn 2 = .ok (.getfield 13, 3) := by decide +kernel
theorem dX10_stateIn_5 : decode cX10_stateIn 5 = .ok (.iload_n 2, 1) := by decide +kernel
theorem dX10_stateIn_6 : decode cX10_stateIn 6 = .ok (.iaload, 1) := by decide +kernel
theorem dX10_stateIn_7 : decode cX10_stateIn 7 = .ok (.idiv, 1) := by decide +kernel
theorem dX10_stateIn_8 : decode cX10_stateIn 8 = .ok (.aload_n 0, 1) := by decide +kernel
theorem dX10_stateIn_9 : decode cX10_stateIn 9 = .ok (.getfield 7, 3) := by decide +kernel
theorem dX10_stateIn_12 : decode cX10_stateIn 12 = .ok (.iload_n 2, 1) := by decide +kernel
theorem dX10_stateIn_13 : decode cX10_stateIn 13 = .ok (.iaload, 1) := by decide +kernel
theorem dX10_stateIn_14 : decode cX10_stateIn 14 = .ok (.irem, 1) := by decide +kernel
theorem dX10_stateIn_15 : decode cX10_stateIn 15 = .ok (.ireturn, 1) := by decide +kernel
theorem dX10_with_0 : decode cX10_with 0 = .ok (.iload_n 1, 1) := by decide +kernel
theorem dX10_with_1 : decode cX10_with 1 = .ok (.iload_n 3, 1) := by decide +kernel
theorem dX10_with_2 : decode cX10_with 2 = .ok (.aload_n 0, 1) := by decide +kernel
theorem dX10_with_3 : decode cX10_with 3 = .ok (.iload_n 1, 1) := by decide +kernel
theorem dX10_with_4 : decode cX10_with 4 = .ok (.iload_n 2, 1) := by decide +kernel
theorem dX10_with_5 : decode cX10_with 5 = .ok (.invokevirtual 133, 3) := by decide +kernel
theorem dX10_with_8 : decode cX10_with 8 = .ok (.isub, 1) := by decide +kernel
theorem dX10_with_9 : decode cX10_with 9 = .ok (.aload_n 0, 1) := by decide +kernel
theorem dX10_with_10 : decode cX10_with 10 = .ok (.getfield 13, 3) := by decide +kernel
theorem dX10_with_13 : decode cX10_with 13 = .ok (.iload_n 2, 1) := by decide +kernel
theorem dX10_with_14 : decode cX10_with 14 = .ok (.iaload, 1) := by decide +kernel
theorem dX10_with_15 : decode cX10_with 15 = .ok (.imul, 1) := by decide +kernel
theorem dX10_with_16 : decode cX10_with 16 = .ok (.iadd, 1) := by decide +kernel
theorem dX10_with_17 : decode cX10_with 17 = .ok (.ireturn, 1) := by decide +kernel
theorem dX10_stepped_0 : decode cX10_stepped 0 = .ok (.aload_n 0, 1) := by decide +kernel
theorem dX10_stepped_1 : decode cX10_stepped 1 = .ok (.iload_n 1, 1) := by decide +kernel
theorem dX10_stepped_2 : decode cX10_stepped 2 = .ok (.iload_n 2, 1) := by decide +kernel
theorem dX10_stepped_3 : decode cX10_stepped 3 = .ok (.aload_n 0, 1) := by decide +kernel
theorem dX10_stepped_4 : decode cX10_stepped 4 = .ok (.iload_n 1, 1) := by decide +kernel
theorem dX10_stepped_5 : decode cX10_stepped 5 = .ok (.iload_n 2, 1) := by decide +kernel
theorem dX10_stepped_6 : decode cX10_stepped 6 = .ok (.invokevirtual 133, 3) := by decide +kernel
theorem dX10_stepped_9 : decode cX10_stepped 9 = .ok (.iconst 1, 1) := by decide +kernel
theorem dX10_stepped_10 : decode cX10_stepped 10 = .ok (.iadd, 1) := by decide +kernel
theorem dX10_stepped_11 : decode cX10_stepped 11 = .ok (.aload_n 0, 1) := by decide +kernel
theorem dX10_stepped_12 : decode cX10_stepped 12 = .ok (.getfield 7, 3) := by decide +kernel
theorem dX10_stepped_15 : decode cX10_stepped 15 = .ok (.iload_n 2, 1) := by decide +kernel
theorem dX10_stepped_16 : decode cX10_stepped 16 = .ok (.iaload, 1) := by decide +kernel
theorem dX10_stepped_17 : decode cX10_stepped 17 = .ok (.irem, 1) := by decide +kernel
theorem dX10_stepped_18 : decode cX10_stepped 18 = .ok (.invokevirtual 136, 3) := by decide +kernel
theorem dX10_stepped_21 : decode cX10_stepped 21 = .ok (.ireturn, 1) := by decide +kernel
theorem dX10_made_0 : decode cX10_made 0 = .ok (.aload_n 0, 1) := by decide +kernel
theorem dX10_made_1 : decode cX10_made 1 = .ok (.getfield 16, 3) := by decide +kernel
theorem dX10_made_4 : decode cX10_made 4 = .ok (.iload_n 1, 1) := by decide +kernel
theorem dX10_made_5 : decode cX10_made 5 = .ok (.iaload, 1) := by decide +kernel
theorem dX10_made_6 : decode cX10_made 6 = .ok (.istore_n 3, 1) := by decide +kernel
theorem dX10_made_7 : decode cX10_made 7 = .ok (.aload_n 0, 1) := by decide +kernel
theorem dX10_made_8 : decode cX10_made 8 = .ok (.getfield 19, 3) := by decide +kernel
theorem dX10_made_11 : decode cX10_made 11 = .ok (.iload_n 1, 1) := by decide +kernel
theorem dX10_made_12 : decode cX10_made 12 = .ok (.iaload, 1) := by decide +kernel
theorem dX10_made_13 : decode cX10_made 13 = .ok (.tableswitch 96 0 2 #[27, 34, 47], 27) := by decide +kernel
theorem dX10_made_40 : decode cX10_made 40 = .ok (.aload_n 0, 1) := by decide +kernel
theorem dX10_made_41 : decode cX10_made 41 = .ok (.iload_n 2, 1) := by decide +kernel
theorem dX10_made_42 : decode cX10_made 42 = .ok (.iload_n 3, 1) := by decide +kernel
theorem dX10_made_43 : decode cX10_made 43 = .ok (.invokevirtual 140, 3) := by decide +kernel
theorem dX10_made_46 : decode cX10_made 46 = .ok (.ireturn, 1) := by decide +kernel
theorem dX10_made_47 : decode cX10_made 47 = .ok (.aload_n 0, 1) := by decide +kernel
theorem dX10_made_48 : decode cX10_made 48 = .ok (.iload_n 2, 1) := by decide +kernel
theorem dX10_made_49 : decode cX10_made 49 = .ok (.iload_n 3, 1) := by decide +kernel
theorem dX10_made_50 : decode cX10_made 50 = .ok (.aload_n 0, 1) := by decide +kernel
theorem dX10_made_51 : decode cX10_made 51 = .ok (.getfield 22, 3) := by decide +kernel
theorem dX10_made_54 : decode cX10_made 54 = .ok (.iload_n 1, 1) := by decide +kernel
theorem dX10_made_55 : decode cX10_made 55 = .ok (.iaload, 1) := by decide +kernel
theorem dX10_made_56 : decode cX10_made 56 = .ok (.invokevirtual 136, 3) := by decide +kernel
theorem dX10_made_59 : decode cX10_made 59 = .ok (.ireturn, 1) := by decide +kernel
theorem dX10_made_60 : decode cX10_made 60 = .ok (.iload_n 2, 1) := by decide +kernel
theorem dX10_made_61 : decode cX10_made 61 = .ok (.istore 4, 2) := by decide +kernel
theorem dX10_made_63 : decode cX10_made 63 = .ok (.iload_n 3, 1) := by decide +kernel
theorem dX10_made_64 : decode cX10_made 64 = .ok (.istore 5, 2) := by decide +kernel
theorem dX10_made_66 : decode cX10_made 66 = .ok (.iload 5, 2) := by decide +kernel
theorem dX10_made_68 : decode cX10_made 68 = .ok (.aload_n 0, 1) := by decide +kernel
theorem dX10_made_69 : decode cX10_made 69 = .ok (.getfield 111, 3) := by decide +kernel
theorem dX10_made_72 : decode cX10_made 72 = .ok (.if_icmp .ge 34, 3) := by decide +kernel
theorem dX10_made_75 : decode cX10_made 75 = .ok (.aload_n 0, 1) := by decide +kernel
theorem dX10_made_76 : decode cX10_made 76 = .ok (.iload 4, 2) := by decide +kernel
theorem dX10_made_78 : decode cX10_made 78 = .ok (.iload 5, 2) := by decide +kernel
theorem dX10_made_80 : decode cX10_made 80 = .ok (.aload_n 0, 1) := by decide +kernel
theorem dX10_made_81 : decode cX10_made 81 = .ok (.iload_n 2, 1) := by decide +kernel
theorem dX10_made_82 : decode cX10_made 82 = .ok (.iload 5, 2) := by decide +kernel
theorem dX10_made_84 : decode cX10_made 84 = .ok (.invokevirtual 133, 3) := by decide +kernel
theorem dX10_made_87 : decode cX10_made 87 = .ok (.ifCond .ne 7, 3) := by decide +kernel
theorem dX10_made_90 : decode cX10_made 90 = .ok (.iconst 1, 1) := by decide +kernel
theorem dX10_made_91 : decode cX10_made 91 = .ok (.goto 4, 3) := by decide +kernel
theorem dX10_made_94 : decode cX10_made 94 = .ok (.iconst 0, 1) := by decide +kernel
theorem dX10_made_95 : decode cX10_made 95 = .ok (.invokevirtual 136, 3) := by decide +kernel
theorem dX10_made_98 : decode cX10_made 98 = .ok (.istore 4, 2) := by decide +kernel
theorem dX10_made_100 : decode cX10_made 100 = .ok (.iinc 5 1, 3) := by decide +kernel
theorem dX10_made_103 : decode cX10_made 103 = .ok (.goto (-37), 3) := by decide +kernel
theorem dX10_made_106 : decode cX10_made 106 = .ok (.iload 4, 2) := by decide +kernel
theorem dX10_made_108 : decode cX10_made 108 = .ok (.ireturn, 1) := by decide +kernel
theorem dX10_made_109 : decode cX10_made 109 = .ok (.aload_n 0, 1) := by decide +kernel
theorem dX10_made_110 : decode cX10_made 110 = .ok (.iload_n 2, 1) := by decide +kernel
theorem dX10_made_111 : decode cX10_made 111 = .ok (.aload_n 0, 1) := by decide +kernel
theorem dX10_made_112 : decode cX10_made 112 = .ok (.getfield 22, 3) := by decide +kernel
theorem dX10_made_115 : decode cX10_made 115 = .ok (.iload_n 1, 1) := by decide +kernel
theorem dX10_made_116 : decode cX10_made 116 = .ok (.iaload, 1) := by decide +kernel
theorem dX10_made_117 : decode cX10_made 117 = .ok (.invokevirtual 133, 3) := by decide +kernel
theorem dX10_made_120 : decode cX10_made 120 = .ok (.ifCond .ne 7, 3) := by decide +kernel
theorem dX10_made_123 : decode cX10_made 123 = .ok (.iload_n 2, 1) := by decide +kernel
theorem dX10_made_124 : decode cX10_made 124 = .ok (.goto 9, 3) := by decide +kernel
theorem dX10_made_127 : decode cX10_made 127 = .ok (.aload_n 0, 1) := by decide +kernel
theorem dX10_made_128 : decode cX10_made 128 = .ok (.iload_n 2, 1) := by decide +kernel
theorem dX10_made_129 : decode cX10_made 129 = .ok (.iload_n 3, 1) := by decide +kernel
theorem dX10_made_130 : decode cX10_made 130 = .ok (.invokevirtual 140, 3) := by decide +kernel
theorem dX10_made_133 : decode cX10_made 133 = .ok (.ireturn, 1) := by decide +kernel
theorem dX10_figuresOf_0 : decode cX10_figuresOf 0 = .ok (.iconst 0, 1) := by decide +kernel
theorem dX10_figuresOf_1 : decode cX10_figuresOf 1 = .ok (.istore_n 2, 1) := by decide +kernel
theorem dX10_figuresOf_2 : decode cX10_figuresOf 2 = .ok (.iconst 0, 1) := by decide +kernel
theorem dX10_figuresOf_3 : decode cX10_figuresOf 3 = .ok (.istore_n 3, 1) := by decide +kernel
theorem dX10_figuresOf_4 : decode cX10_figuresOf 4 = .ok (.iload_n 3, 1) := by decide +kernel
theorem dX10_figuresOf_5 : decode cX10_figuresOf 5 = .ok (.aload_n 0, 1) := by decide +kernel
theorem dX10_figuresOf_6 : decode cX10_figuresOf 6 = .ok (.getfield 111, 3) := by decide +kernel
theorem dX10_figuresOf_9 : decode cX10_figuresOf 9 = .ok (.if_icmp .ge 21, 3) := by decide +kernel
theorem dX10_figuresOf_12 : decode cX10_figuresOf 12 = .ok (.bipush 10, 2) := by decide +kernel
theorem dX10_figuresOf_14 : decode cX10_figuresOf 14 = .ok (.iload_n 2, 1) := by decide +kernel
theorem dX10_figuresOf_15 : decode cX10_figuresOf 15 = .ok (.imul, 1) := by decide +kernel
theorem dX10_figuresOf_16 : decode cX10_figuresOf 16 = .ok (.aload_n 0, 1) := by decide +kernel
theorem dX10_figuresOf_17 : decode cX10_figuresOf 17 = .ok (.iload_n 1, 1) := by decide +kernel
theorem dX10_figuresOf_18 : decode cX10_figuresOf 18 = .ok (.iload_n 3, 1) := by decide +kernel
theorem dX10_figuresOf_19 : decode cX10_figuresOf 19 = .ok (.invokevirtual 133, 3) := by decide +kernel
theorem dX10_figuresOf_22 : decode cX10_figuresOf 22 = .ok (.iadd, 1) := by decide +kernel
theorem dX10_figuresOf_23 : decode cX10_figuresOf 23 = .ok (.istore_n 2, 1) := by decide +kernel
theorem dX10_figuresOf_24 : decode cX10_figuresOf 24 = .ok (.iinc 3 1, 3) := by decide +kernel
theorem dX10_figuresOf_27 : decode cX10_figuresOf 27 = .ok (.goto (-23), 3) := by decide +kernel
theorem dX10_figuresOf_30 : decode cX10_figuresOf 30 = .ok (.iload_n 2, 1) := by decide +kernel
theorem dX10_figuresOf_31 : decode cX10_figuresOf 31 = .ok (.ireturn, 1) := by decide +kernel
theorem dX10_lightsOf_0 : decode cX10_lightsOf 0 = .ok (.iconst 0, 1) := by decide +kernel
theorem dX10_lightsOf_1 : decode cX10_lightsOf 1 = .ok (.istore_n 2, 1) := by decide +kernel
theorem dX10_lightsOf_2 : decode cX10_lightsOf 2 = .ok (.iconst 0, 1) := by decide +kernel
theorem dX10_lightsOf_3 : decode cX10_lightsOf 3 = .ok (.istore_n 3, 1) := by decide +kernel
theorem dX10_lightsOf_4 : decode cX10_lightsOf 4 = .ok (.iload_n 3, 1) := by decide +kernel
theorem dX10_lightsOf_5 : decode cX10_lightsOf 5 = .ok (.aload_n 0, 1) := by decide +kernel
theorem dX10_lightsOf_6 : decode cX10_lightsOf 6 = .ok (.getfield 111, 3) := by decide +kernel
theorem dX10_lightsOf_9 : decode cX10_lightsOf 9 = .ok (.if_icmp .ge 28, 3) := by decide +kernel
theorem dX10_lightsOf_12 : decode cX10_lightsOf 12 = .ok (.iload_n 2, 1) := by decide +kernel
theorem dX10_lightsOf_13 : decode cX10_lightsOf 13 = .ok (.aload_n 0, 1) := by decide +kernel
theorem dX10_lightsOf_14 : decode cX10_lightsOf 14 = .ok (.iload_n 1, 1) := by decide +kernel
theorem dX10_lightsOf_15 : decode cX10_lightsOf 15 = .ok (.iload_n 3, 1) := by decide +kernel
theorem dX10_lightsOf_16 : decode cX10_lightsOf 16 = .ok (.invokevirtual 133, 3) := by decide +kernel
theorem dX10_lightsOf_19 : decode cX10_lightsOf 19 = .ok (.ifCond .le 9, 3) := by decide +kernel
theorem dX10_lightsOf_22 : decode cX10_lightsOf 22 = .ok (.iconst 1, 1) := by decide +kernel
theorem dX10_lightsOf_23 : decode cX10_lightsOf 23 = .ok (.iload_n 3, 1) := by decide +kernel
theorem dX10_lightsOf_24 : decode cX10_lightsOf 24 = .ok (.ishl, 1) := by decide +kernel
theorem dX10_lightsOf_25 : decode cX10_lightsOf 25 = .ok (.goto 4, 3) := by decide +kernel
theorem dX10_lightsOf_28 : decode cX10_lightsOf 28 = .ok (.iconst 0, 1) := by decide +kernel
theorem dX10_lightsOf_29 : decode cX10_lightsOf 29 = .ok (.ior, 1) := by decide +kernel
theorem dX10_lightsOf_30 : decode cX10_lightsOf 30 = .ok (.istore_n 2, 1) := by decide +kernel
theorem dX10_lightsOf_31 : decode cX10_lightsOf 31 = .ok (.iinc 3 1, 3) := by decide +kernel
theorem dX10_lightsOf_34 : decode cX10_lightsOf 34 = .ok (.goto (-30), 3) := by decide +kernel
theorem dX10_lightsOf_37 : decode cX10_lightsOf 37 = .ok (.iload_n 2, 1) := by decide +kernel
theorem dX10_lightsOf_38 : decode cX10_lightsOf 38 = .ok (.ireturn, 1) := by decide +kernel
theorem dX10_messOf_0 : decode cX10_messOf 0 = .ok (.iload_n 1, 1) := by decide +kernel
theorem dX10_messOf_1 : decode cX10_messOf 1 = .ok (.istore_n 2, 1) := by decide +kernel
theorem dX10_messOf_2 : decode cX10_messOf 2 = .ok (.iconst 0, 1) := by decide +kernel
theorem dX10_messOf_3 : decode cX10_messOf 3 = .ok (.istore_n 3, 1) := by decide +kernel
theorem dX10_messOf_4 : decode cX10_messOf 4 = .ok (.aload_n 0, 1) := by decide +kernel
theorem dX10_messOf_5 : decode cX10_messOf 5 = .ok (.getfield 111, 3) := by decide +kernel
theorem dX10_messOf_8 : decode cX10_messOf 8 = .ok (.iconst 1, 1) := by decide +kernel
theorem dX10_messOf_9 : decode cX10_messOf 9 = .ok (.isub, 1) := by decide +kernel
theorem dX10_messOf_10 : decode cX10_messOf 10 = .ok (.istore 4, 2) := by decide +kernel
theorem dX10_messOf_12 : decode cX10_messOf 12 = .ok (.iload 4, 2) := by decide +kernel
theorem dX10_messOf_14 : decode cX10_messOf 14 = .ok (.ifCond .lt 56, 3) := by decide +kernel
theorem dX10_messOf_17 : decode cX10_messOf 17 = .ok (.iload_n 2, 1) := by decide +kernel
theorem dX10_messOf_18 : decode cX10_messOf 18 = .ok (.bipush 10, 2) := by decide +kernel
theorem dX10_messOf_20 : decode cX10_messOf 20 = .ok (.irem, 1) := by decide +kernel
theorem dX10_messOf_21 : decode cX10_messOf 21 = .ok (.istore 5, 2) := by decide +kernel
theorem dX10_messOf_23 : decode cX10_messOf 23 = .ok (.iload 5, 2) := by decide +kernel
theorem dX10_messOf_25 : decode cX10_messOf 25 = .ok (.i2l, 1) := by decide +kernel
theorem dX10_messOf_26 : decode cX10_messOf 26 = .ok (.lconst 0, 1) := by decide +kernel
theorem dX10_messOf_27 : decode cX10_messOf 27 = .ok (.aload_n 0, 1) := by decide +kernel
theorem dX10_messOf_28 : decode cX10_messOf 28 = .ok (.getfield 7, 3) := by decide +kernel
theorem dX10_messOf_31 : decode cX10_messOf 31 = .ok (.iload 4, 2) := by decide +kernel
theorem dX10_messOf_33 : decode cX10_messOf 33 = .ok (.iaload, 1) := by decide +kernel
theorem dX10_messOf_34 : decode cX10_messOf 34 = .ok (.iconst 1, 1) := by decide +kernel
theorem dX10_messOf_35 : decode cX10_messOf 35 = .ok (.isub, 1) := by decide +kernel
theorem dX10_messOf_36 : decode cX10_messOf 36 = .ok (.i2l, 1) := by decide +kernel
theorem dX10_messOf_37 : decode cX10_messOf 37 = .ok (.invokestatic 74, 3) := by decide +kernel
theorem dX10_messOf_40 : decode cX10_messOf 40 = .ok (.ifCond .ne 6, 3) := by decide +kernel
theorem dX10_messOf_43 : decode cX10_messOf 43 = .ok (.bipush (-9), 2) := by decide +kernel
theorem dX10_messOf_45 : decode cX10_messOf 45 = .ok (.ireturn, 1) := by decide +kernel
theorem dX10_messOf_46 : decode cX10_messOf 46 = .ok (.iload_n 3, 1) := by decide +kernel
theorem dX10_messOf_47 : decode cX10_messOf 47 = .ok (.aload_n 0, 1) := by decide +kernel
theorem dX10_messOf_48 : decode cX10_messOf 48 = .ok (.getfield 13, 3) := by decide +kernel
theorem dX10_messOf_51 : decode cX10_messOf 51 = .ok (.iload 4, 2) := by decide +kernel
theorem dX10_messOf_53 : decode cX10_messOf 53 = .ok (.iaload, 1) := by decide +kernel
theorem dX10_messOf_54 : decode cX10_messOf 54 = .ok (.iload 5, 2) := by decide +kernel
theorem dX10_messOf_56 : decode cX10_messOf 56 = .ok (.imul, 1) := by decide +kernel
theorem dX10_messOf_57 : decode cX10_messOf 57 = .ok (.iadd, 1) := by decide +kernel
theorem dX10_messOf_58 : decode cX10_messOf 58 = .ok (.istore_n 3, 1) := by decide +kernel
theorem dX10_messOf_59 : decode cX10_messOf 59 = .ok (.iload_n 2, 1) := by decide +kernel
theorem dX10_messOf_60 : decode cX10_messOf 60 = .ok (.bipush 10, 2) := by decide +kernel
theorem dX10_messOf_62 : decode cX10_messOf 62 = .ok (.idiv, 1) := by decide +kernel
theorem dX10_messOf_63 : decode cX10_messOf 63 = .ok (.istore_n 2, 1) := by decide +kernel
theorem dX10_messOf_64 : decode cX10_messOf 64 = .ok (.iinc 4 (-1), 3) := by decide +kernel
theorem dX10_messOf_67 : decode cX10_messOf 67 = .ok (.goto (-55), 3) := by decide +kernel
theorem dX10_messOf_70 : decode cX10_messOf 70 = .ok (.iload_n 2, 1) := by decide +kernel
theorem dX10_messOf_71 : decode cX10_messOf 71 = .ok (.ifCond .ne 7, 3) := by decide +kernel
theorem dX10_messOf_74 : decode cX10_messOf 74 = .ok (.iload_n 3, 1) := by decide +kernel
theorem dX10_messOf_75 : decode cX10_messOf 75 = .ok (.goto 5, 3) := by decide +kernel
theorem dX10_messOf_78 : decode cX10_messOf 78 = .ok (.bipush (-9), 2) := by decide +kernel
theorem dX10_messOf_80 : decode cX10_messOf 80 = .ok (.ireturn, 1) := by decide +kernel
theorem dX10_isThing_0 : decode cX10_isThing 0 = .ok (.iload_n 1, 1) := by decide +kernel
theorem dX10_isThing_1 : decode cX10_isThing 1 = .ok (.i2l, 1) := by decide +kernel
theorem dX10_isThing_2 : decode cX10_isThing 2 = .ok (.lconst 0, 1) := by decide +kernel
theorem dX10_isThing_3 : decode cX10_isThing 3 = .ok (.aload_n 0, 1) := by decide +kernel
theorem dX10_isThing_4 : decode cX10_isThing 4 = .ok (.getfield 111, 3) := by decide +kernel
theorem dX10_isThing_7 : decode cX10_isThing 7 = .ok (.iconst 1, 1) := by decide +kernel
theorem dX10_isThing_8 : decode cX10_isThing 8 = .ok (.isub, 1) := by decide +kernel
theorem dX10_isThing_9 : decode cX10_isThing 9 = .ok (.i2l, 1) := by decide +kernel
theorem dX10_isThing_10 : decode cX10_isThing 10 = .ok (.invokestatic 74, 3) := by decide +kernel
theorem dX10_isThing_13 : decode cX10_isThing 13 = .ok (.ireturn, 1) := by decide +kernel
theorem dX10_isButton_0 : decode cX10_isButton 0 = .ok (.iload_n 1, 1) := by decide +kernel
theorem dX10_isButton_1 : decode cX10_isButton 1 = .ok (.i2l, 1) := by decide +kernel
theorem dX10_isButton_2 : decode cX10_isButton 2 = .ok (.lconst 0, 1) := by decide +kernel
theorem dX10_isButton_3 : decode cX10_isButton 3 = .ok (.aload_n 0, 1) := by decide +kernel
theorem dX10_isButton_4 : decode cX10_isButton 4 = .ok (.getfield 114, 3) := by decide +kernel
theorem dX10_isButton_7 : decode cX10_isButton 7 = .ok (.iconst 1, 1) := by decide +kernel
theorem dX10_isButton_8 : decode cX10_isButton 8 = .ok (.isub, 1) := by decide +kernel
theorem dX10_isButton_9 : decode cX10_isButton 9 = .ok (.i2l, 1) := by decide +kernel
theorem dX10_isButton_10 : decode cX10_isButton 10 = .ok (.invokestatic 74, 3) := by decide +kernel
theorem dX10_isButton_13 : decode cX10_isButton 13 = .ok (.ireturn, 1) := by decide +kernel
theorem dX10_thing_0 : decode cX10_thing 0 = .ok (.aload_n 0, 1) := by decide +kernel
theorem dX10_thing_1 : decode cX10_thing 1 = .ok (.iload_n 1, 1) := by decide +kernel
theorem dX10_thing_2 : decode cX10_thing 2 = .ok (.invokevirtual 143, 3) := by decide +kernel
theorem dX10_thing_5 : decode cX10_thing 5 = .ok (.ifCond .ne 5, 3) := by decide +kernel
theorem dX10_thing_8 : decode cX10_thing 8 = .ok (.iconst (-1), 1) := by decide +kernel
theorem dX10_thing_9 : decode cX10_thing 9 = .ok (.ireturn, 1) := by decide +kernel
theorem dX10_thing_10 : decode cX10_thing 10 = .ok (.iload_n 2, 1) := by decide +kernel
theorem dX10_thing_11 : decode cX10_thing 11 = .ok (.tableswitch 52 0 2 #[25, 32, 42], 25) := by decide +kernel
theorem dX10_thing_36 : decode cX10_thing 36 = .ok (.aload_n 0, 1) := by decide +kernel
theorem dX10_thing_37 : decode cX10_thing 37 = .ok (.getfield 7, 3) := by decide +kernel
theorem dX10_thing_40 : decode cX10_thing 40 = .ok (.iload_n 1, 1) := by decide +kernel
theorem dX10_thing_41 : decode cX10_thing 41 = .ok (.iaload, 1) := by decide +kernel
theorem dX10_thing_42 : decode cX10_thing 42 = .ok (.ireturn, 1) := by decide +kernel
theorem dX10_thing_43 : decode cX10_thing 43 = .ok (.aload_n 0, 1) := by decide +kernel
theorem dX10_thing_44 : decode cX10_thing 44 = .ok (.aload_n 0, 1) := by decide +kernel
theorem dX10_thing_45 : decode cX10_thing 45 = .ok (.getfield 117, 3) := by decide +kernel
theorem dX10_thing_48 : decode cX10_thing 48 = .ok (.iload_n 1, 1) := by decide +kernel
theorem dX10_thing_49 : decode cX10_thing 49 = .ok (.invokevirtual 133, 3) := by decide +kernel
theorem dX10_thing_52 : decode cX10_thing 52 = .ok (.ireturn, 1) := by decide +kernel
theorem dX10_thing_53 : decode cX10_thing 53 = .ok (.aload_n 0, 1) := by decide +kernel
theorem dX10_thing_54 : decode cX10_thing 54 = .ok (.aload_n 0, 1) := by decide +kernel
theorem dX10_thing_55 : decode cX10_thing 55 = .ok (.getfield 124, 3) := by decide +kernel
theorem dX10_thing_58 : decode cX10_thing 58 = .ok (.iload_n 1, 1) := by decide +kernel
theorem dX10_thing_59 : decode cX10_thing 59 = .ok (.invokevirtual 133, 3) := by decide +kernel
theorem dX10_thing_62 : decode cX10_thing 62 = .ok (.ireturn, 1) := by decide +kernel
theorem dX10_thing_63 : decode cX10_thing 63 = .ok (.bipush (-2), 2) := by decide +kernel
theorem dX10_thing_65 : decode cX10_thing 65 = .ok (.ireturn, 1) := by decide +kernel
theorem dX10_button_0 : decode cX10_button 0 = .ok (.aload_n 0, 1) := by decide +kernel
theorem dX10_button_1 : decode cX10_button 1 = .ok (.iload_n 1, 1) := by decide +kernel
theorem dX10_button_2 : decode cX10_button 2 = .ok (.invokevirtual 147, 3) := by decide +kernel
theorem dX10_button_5 : decode cX10_button 5 = .ok (.ifCond .ne 5, 3) := by decide +kernel
theorem dX10_button_8 : decode cX10_button 8 = .ok (.iconst (-1), 1) := by decide +kernel
theorem dX10_button_9 : decode cX10_button 9 = .ok (.ireturn, 1) := by decide +kernel
theorem dX10_button_10 : decode cX10_button 10 = .ok (.iload_n 2, 1) := by decide +kernel
theorem dX10_button_11 : decode cX10_button 11 = .ok (.tableswitch 46 0 2 #[25, 32, 39], 25) := by decide +kernel
theorem dX10_button_36 : decode cX10_button 36 = .ok (.aload_n 0, 1) := by decide +kernel
theorem dX10_button_37 : decode cX10_button 37 = .ok (.getfield 16, 3) := by decide +kernel
theorem dX10_button_40 : decode cX10_button 40 = .ok (.iload_n 1, 1) := by decide +kernel
theorem dX10_button_41 : decode cX10_button 41 = .ok (.iaload, 1) := by decide +kernel
theorem dX10_button_42 : decode cX10_button 42 = .ok (.ireturn, 1) := by decide +kernel
theorem dX10_button_43 : decode cX10_button 43 = .ok (.aload_n 0, 1) := by decide +kernel
theorem dX10_button_44 : decode cX10_button 44 = .ok (.getfield 19, 3) := by decide +kernel
theorem dX10_button_47 : decode cX10_button 47 = .ok (.iload_n 1, 1) := by decide +kernel
theorem dX10_button_48 : decode cX10_button 48 = .ok (.iaload, 1) := by decide +kernel
theorem dX10_button_49 : decode cX10_button 49 = .ok (.ireturn, 1) := by decide +kernel
theorem dX10_button_50 : decode cX10_button 50 = .ok (.aload_n 0, 1) := by decide +kernel
theorem dX10_button_51 : decode cX10_button 51 = .ok (.getfield 22, 3) := by decide +kernel
theorem dX10_button_54 : decode cX10_button 54 = .ok (.iload_n 1, 1) := by decide +kernel
theorem dX10_button_55 : decode cX10_button 55 = .ok (.iaload, 1) := by decide +kernel
theorem dX10_button_56 : decode cX10_button 56 = .ok (.ireturn, 1) := by decide +kernel
theorem dX10_button_57 : decode cX10_button 57 = .ok (.bipush (-2), 2) := by decide +kernel
theorem dX10_button_59 : decode cX10_button 59 = .ok (.ireturn, 1) := by decide +kernel
theorem dX10_keepAct_0 : decode cX10_keepAct 0 = .ok (.aload_n 0, 1) := by decide +kernel
theorem dX10_keepAct_1 : decode cX10_keepAct 1 = .ok (.getfield 40, 3) := by decide +kernel
theorem dX10_keepAct_4 : decode cX10_keepAct 4 = .ok (.iconst 3, 1) := by decide +kernel
theorem dX10_keepAct_5 : decode cX10_keepAct 5 = .ok (.aload_n 0, 1) := by decide +kernel
theorem dX10_keepAct_6 : decode cX10_keepAct 6 = .ok (.getfield 150, 3) := by decide +kernel
theorem dX10_keepAct_9 : decode cX10_keepAct 9 = .ok (.imul, 1) := by decide +kernel
theorem dX10_keepAct_10 : decode cX10_keepAct 10 = .ok (.aload_n 0, 1) := by decide +kernel
theorem dX10_keepAct_11 : decode cX10_keepAct 11 = .ok (.getfield 117, 3) := by decide +kernel
theorem dX10_keepAct_14 : decode cX10_keepAct 14 = .ok (.iastore, 1) := by decide +kernel
theorem dX10_keepAct_15 : decode cX10_keepAct 15 = .ok (.aload_n 0, 1) := by decide +kernel
theorem dX10_keepAct_16 : decode cX10_keepAct 16 = .ok (.getfield 40, 3) := by decide +kernel
theorem dX10_keepAct_19 : decode cX10_keepAct 19 = .ok (.iconst 3, 1) := by decide +kernel
theorem dX10_keepAct_20 : decode cX10_keepAct 20 = .ok (.aload_n 0, 1) := by decide +kernel
theorem dX10_keepAct_21 : decode cX10_keepAct 21 = .ok (.getfield 150, 3) := by decide +kernel
theorem dX10_keepAct_24 : decode cX10_keepAct 24 = .ok (.imul, 1) := by decide +kernel
theorem dX10_keepAct_25 : decode cX10_keepAct 25 = .ok (.iconst 1, 1) := by decide +kernel
theorem dX10_keepAct_26 : decode cX10_keepAct 26 = .ok (.iadd, 1) := by decide +kernel
theorem dX10_keepAct_27 : decode cX10_keepAct 27 = .ok (.aload_n 0, 1) := by decide +kernel
theorem dX10_keepAct_28 : decode cX10_keepAct 28 = .ok (.getfield 124, 3) := by decide +kernel
theorem dX10_keepAct_31 : decode cX10_keepAct 31 = .ok (.iastore, 1) := by decide +kernel
theorem dX10_keepAct_32 : decode cX10_keepAct 32 = .ok (.aload_n 0, 1) := by decide +kernel
theorem dX10_keepAct_33 : decode cX10_keepAct 33 = .ok (.getfield 40, 3) := by decide +kernel
theorem dX10_keepAct_36 : decode cX10_keepAct 36 = .ok (.iconst 3, 1) := by decide +kernel
theorem dX10_keepAct_37 : decode cX10_keepAct 37 = .ok (.aload_n 0, 1) := by decide +kernel
theorem dX10_keepAct_38 : decode cX10_keepAct 38 = .ok (.getfield 150, 3) := by decide +kernel
theorem dX10_keepAct_41 : decode cX10_keepAct 41 = .ok (.imul, 1) := by decide +kernel
theorem dX10_keepAct_42 : decode cX10_keepAct 42 = .ok (.iconst 2, 1) := by decide +kernel
theorem dX10_keepAct_43 : decode cX10_keepAct 43 = .ok (.iadd, 1) := by decide +kernel
theorem dX10_keepAct_44 : decode cX10_keepAct 44 = .ok (.aload_n 0, 1) := by decide +kernel
theorem dX10_keepAct_45 : decode cX10_keepAct 45 = .ok (.getfield 127, 3) := by decide +kernel
theorem dX10_keepAct_48 : decode cX10_keepAct 48 = .ok (.iastore, 1) := by decide +kernel
theorem dX10_keepAct_49 : decode cX10_keepAct 49 = .ok (.aload_n 0, 1) := by decide +kernel
theorem dX10_keepAct_50 : decode cX10_keepAct 50 = .ok (.aload_n 0, 1) := by decide +kernel
theorem dX10_keepAct_51 : decode cX10_keepAct 51 = .ok (.getfield 150, 3) := by decide +kernel
theorem dX10_keepAct_54 : decode cX10_keepAct 54 = .ok (.iconst 1, 1) := by decide +kernel
theorem dX10_keepAct_55 : decode cX10_keepAct 55 = .ok (.iadd, 1) := by decide +kernel
theorem dX10_keepAct_56 : decode cX10_keepAct 56 = .ok (.bipush 14, 2) := by decide +kernel
theorem dX10_keepAct_58 : decode cX10_keepAct 58 = .ok (.irem, 1) := by decide +kernel
theorem dX10_keepAct_59 : decode cX10_keepAct 59 = .ok (.putfield 150, 3) := by decide +kernel
theorem dX10_keepAct_62 : decode cX10_keepAct 62 = .ok (.aload_n 0, 1) := by decide +kernel
theorem dX10_keepAct_63 : decode cX10_keepAct 63 = .ok (.aload_n 0, 1) := by decide +kernel
theorem dX10_keepAct_64 : decode cX10_keepAct 64 = .ok (.getfield 130, 3) := by decide +kernel
theorem dX10_keepAct_67 : decode cX10_keepAct 67 = .ok (.bipush 14, 2) := by decide +kernel
theorem dX10_keepAct_69 : decode cX10_keepAct 69 = .ok (.if_icmp .ge 12, 3) := by decide +kernel
theorem dX10_keepAct_72 : decode cX10_keepAct 72 = .ok (.aload_n 0, 1) := by decide +kernel
theorem dX10_keepAct_73 : decode cX10_keepAct 73 = .ok (.getfield 130, 3) := by decide +kernel
theorem dX10_keepAct_76 : decode cX10_keepAct 76 = .ok (.iconst 1, 1) := by decide +kernel
theorem dX10_keepAct_77 : decode cX10_keepAct 77 = .ok (.iadd, 1) := by decide +kernel
theorem dX10_keepAct_78 : decode cX10_keepAct 78 = .ok (.goto 5, 3) := by decide +kernel
theorem dX10_keepAct_81 : decode cX10_keepAct 81 = .ok (.bipush 14, 2) := by decide +kernel
theorem dX10_keepAct_83 : decode cX10_keepAct 83 = .ok (.putfield 130, 3) := by decide +kernel
theorem dX10_keepAct_86 : decode cX10_keepAct 86 = .ok (.return_, 1) := by decide +kernel
theorem dX10_press_0 : decode cX10_press 0 = .ok (.aload_n 0, 1) := by decide +kernel
theorem dX10_press_1 : decode cX10_press 1 = .ok (.iload_n 1, 1) := by decide +kernel
theorem dX10_press_2 : decode cX10_press 2 = .ok (.invokevirtual 147, 3) := by decide +kernel
theorem dX10_press_5 : decode cX10_press 5 = .ok (.ifCond .ne 5, 3) := by decide +kernel
theorem dX10_press_8 : decode cX10_press 8 = .ok (.iconst (-1), 1) := by decide +kernel
theorem dX10_press_9 : decode cX10_press 9 = .ok (.ireturn, 1) := by decide +kernel
theorem dX10_press_10 : decode cX10_press 10 = .ok (.aload_n 0, 1) := by decide +kernel
theorem dX10_press_11 : decode cX10_press 11 = .ok (.invokevirtual 153, 3) := by decide +kernel
theorem dX10_press_14 : decode cX10_press 14 = .ok (.aload_n 0, 1) := by decide +kernel
theorem dX10_press_15 : decode cX10_press 15 = .ok (.aload_n 0, 1) := by decide +kernel
theorem dX10_press_16 : decode cX10_press 16 = .ok (.getfield 25, 3) := by decide +kernel
theorem dX10_press_19 : decode cX10_press 19 = .ok (.sipush 256, 3) := by decide +kernel
theorem dX10_press_22 : decode cX10_press 22 = .ok (.iload_n 1, 1) := by decide +kernel
theorem dX10_press_23 : decode cX10_press 23 = .ok (.imul, 1) := by decide +kernel
theorem dX10_press_24 : decode cX10_press 24 = .ok (.aload_n 0, 1) := by decide +kernel
theorem dX10_press_25 : decode cX10_press 25 = .ok (.getfield 117, 3) := by decide +kernel
theorem dX10_press_28 : decode cX10_press 28 = .ok (.iadd, 1) := by decide +kernel
theorem dX10_press_29 : decode cX10_press 29 = .ok (.iaload, 1) := by decide +kernel
theorem dX10_press_30 : decode cX10_press 30 = .ok (.putfield 117, 3) := by decide +kernel
theorem dX10_press_33 : decode cX10_press 33 = .ok (.aload_n 0, 1) := by decide +kernel
theorem dX10_press_34 : decode cX10_press 34 = .ok (.aload_n 0, 1) := by decide +kernel
theorem dX10_press_35 : decode cX10_press 35 = .ok (.getfield 25, 3) := by decide +kernel
theorem dX10_press_38 : decode cX10_press 38 = .ok (.sipush 256, 3) := by decide +kernel
theorem dX10_press_41 : decode cX10_press 41 = .ok (.iload_n 1, 1) := by decide +kernel
theorem dX10_press_42 : decode cX10_press 42 = .ok (.imul, 1) := by decide +kernel
theorem dX10_press_43 : decode cX10_press 43 = .ok (.aload_n 0, 1) := by decide +kernel
theorem dX10_press_44 : decode cX10_press 44 = .ok (.getfield 124, 3) := by decide +kernel
theorem dX10_press_47 : decode cX10_press 47 = .ok (.iadd, 1) := by decide +kernel
theorem dX10_press_48 : decode cX10_press 48 = .ok (.iaload, 1) := by decide +kernel
theorem dX10_press_49 : decode cX10_press 49 = .ok (.putfield 124, 3) := by decide +kernel
theorem dX10_press_52 : decode cX10_press 52 = .ok (.aload_n 0, 1) := by decide +kernel
theorem dX10_press_53 : decode cX10_press 53 = .ok (.dup, 1) := by decide +kernel
theorem dX10_press_54 : decode cX10_press 54 = .ok (.getfield 127, 3) := by decide +kernel
theorem dX10_press_57 : decode cX10_press 57 = .ok (.iconst 1, 1) := by decide +kernel
theorem dX10_press_58 : decode cX10_press 58 = .ok (.iadd, 1) := by decide +kernel
theorem dX10_press_59 : decode cX10_press 59 = .ok (.putfield 127, 3) := by decide +kernel
theorem dX10_press_62 : decode cX10_press 62 = .ok (.aload_n 0, 1) := by decide +kernel
theorem dX10_press_63 : decode cX10_press 63 = .ok (.aload_n 0, 1) := by decide +kernel
theorem dX10_press_64 : decode cX10_press 64 = .ok (.getfield 117, 3) := by decide +kernel
theorem dX10_press_67 : decode cX10_press 67 = .ok (.invokevirtual 156, 3) := by decide +kernel
theorem dX10_press_70 : decode cX10_press 70 = .ok (.ireturn, 1) := by decide +kernel
theorem dX10_miss_0 : decode cX10_miss 0 = .ok (.aload_n 0, 1) := by decide +kernel
theorem dX10_miss_1 : decode cX10_miss 1 = .ok (.iload_n 1, 1) := by decide +kernel
theorem dX10_miss_2 : decode cX10_miss 2 = .ok (.invokevirtual 147, 3) := by decide +kernel
theorem dX10_miss_5 : decode cX10_miss 5 = .ok (.ifCond .ne 5, 3) := by decide +kernel
theorem dX10_miss_8 : decode cX10_miss 8 = .ok (.iconst (-1), 1) := by decide +kernel
theorem dX10_miss_9 : decode cX10_miss 9 = .ok (.ireturn, 1) := by decide +kernel
theorem dX10_miss_10 : decode cX10_miss 10 = .ok (.aload_n 0, 1) := by decide +kernel
theorem dX10_miss_11 : decode cX10_miss 11 = .ok (.invokevirtual 153, 3) := by decide +kernel
theorem dX10_miss_14 : decode cX10_miss 14 = .ok (.aload_n 0, 1) := by decide +kernel
theorem dX10_miss_15 : decode cX10_miss 15 = .ok (.aload_n 0, 1) := by decide +kernel
theorem dX10_miss_16 : decode cX10_miss 16 = .ok (.getfield 25, 3) := by decide +kernel
theorem dX10_miss_19 : decode cX10_miss 19 = .ok (.sipush 256, 3) := by decide +kernel
theorem dX10_miss_22 : decode cX10_miss 22 = .ok (.iload_n 1, 1) := by decide +kernel
theorem dX10_miss_23 : decode cX10_miss 23 = .ok (.imul, 1) := by decide +kernel
theorem dX10_miss_24 : decode cX10_miss 24 = .ok (.aload_n 0, 1) := by decide +kernel
theorem dX10_miss_25 : decode cX10_miss 25 = .ok (.getfield 124, 3) := by decide +kernel
theorem dX10_miss_28 : decode cX10_miss 28 = .ok (.iadd, 1) := by decide +kernel
theorem dX10_miss_29 : decode cX10_miss 29 = .ok (.iaload, 1) := by decide +kernel
theorem dX10_miss_30 : decode cX10_miss 30 = .ok (.putfield 124, 3) := by decide +kernel
theorem dX10_miss_33 : decode cX10_miss 33 = .ok (.aload_n 0, 1) := by decide +kernel
theorem dX10_miss_34 : decode cX10_miss 34 = .ok (.dup, 1) := by decide +kernel
theorem dX10_miss_35 : decode cX10_miss 35 = .ok (.getfield 127, 3) := by decide +kernel
theorem dX10_miss_38 : decode cX10_miss 38 = .ok (.iconst 1, 1) := by decide +kernel
theorem dX10_miss_39 : decode cX10_miss 39 = .ok (.iadd, 1) := by decide +kernel
theorem dX10_miss_40 : decode cX10_miss 40 = .ok (.putfield 127, 3) := by decide +kernel
theorem dX10_miss_43 : decode cX10_miss 43 = .ok (.aload_n 0, 1) := by decide +kernel
theorem dX10_miss_44 : decode cX10_miss 44 = .ok (.aload_n 0, 1) := by decide +kernel
theorem dX10_miss_45 : decode cX10_miss 45 = .ok (.getfield 124, 3) := by decide +kernel
theorem dX10_miss_48 : decode cX10_miss 48 = .ok (.invokevirtual 156, 3) := by decide +kernel
theorem dX10_miss_51 : decode cX10_miss 51 = .ok (.ireturn, 1) := by decide +kernel
theorem dX10_step_0 : decode cX10_step 0 = .ok (.aload_n 0, 1) := by decide +kernel
theorem dX10_step_1 : decode cX10_step 1 = .ok (.iload_n 1, 1) := by decide +kernel
theorem dX10_step_2 : decode cX10_step 2 = .ok (.invokevirtual 143, 3) := by decide +kernel
theorem dX10_step_5 : decode cX10_step 5 = .ok (.ifCond .ne 5, 3) := by decide +kernel
theorem dX10_step_8 : decode cX10_step 8 = .ok (.iconst (-1), 1) := by decide +kernel
theorem dX10_step_9 : decode cX10_step 9 = .ok (.ireturn, 1) := by decide +kernel
theorem dX10_step_10 : decode cX10_step 10 = .ok (.aload_n 0, 1) := by decide +kernel
theorem dX10_step_11 : decode cX10_step 11 = .ok (.invokevirtual 153, 3) := by decide +kernel
theorem dX10_step_14 : decode cX10_step 14 = .ok (.aload_n 0, 1) := by decide +kernel
theorem dX10_step_15 : decode cX10_step 15 = .ok (.aload_n 0, 1) := by decide +kernel
theorem dX10_step_16 : decode cX10_step 16 = .ok (.aload_n 0, 1) := by decide +kernel
theorem dX10_step_17 : decode cX10_step 17 = .ok (.getfield 117, 3) := by decide +kernel
theorem dX10_step_20 : decode cX10_step 20 = .ok (.iload_n 1, 1) := by decide +kernel
theorem dX10_step_21 : decode cX10_step 21 = .ok (.invokevirtual 140, 3) := by decide +kernel
theorem dX10_step_24 : decode cX10_step 24 = .ok (.putfield 117, 3) := by decide +kernel
theorem dX10_step_27 : decode cX10_step 27 = .ok (.aload_n 0, 1) := by decide +kernel
theorem dX10_step_28 : decode cX10_step 28 = .ok (.aload_n 0, 1) := by decide +kernel
theorem dX10_step_29 : decode cX10_step 29 = .ok (.getfield 117, 3) := by decide +kernel
theorem dX10_step_32 : decode cX10_step 32 = .ok (.iload_n 1, 1) := by decide +kernel
theorem dX10_step_33 : decode cX10_step 33 = .ok (.invokevirtual 133, 3) := by decide +kernel
theorem dX10_step_36 : decode cX10_step 36 = .ok (.ireturn, 1) := by decide +kernel
theorem dX10_find_0 : decode cX10_find 0 = .ok (.iconst 0, 1) := by decide +kernel
theorem dX10_find_1 : decode cX10_find 1 = .ok (.istore_n 1, 1) := by decide +kernel
theorem dX10_find_2 : decode cX10_find 2 = .ok (.iconst 0, 1) := by decide +kernel
theorem dX10_find_3 : decode cX10_find 3 = .ok (.istore_n 2, 1) := by decide +kernel
theorem dX10_find_4 : decode cX10_find 4 = .ok (.iload_n 2, 1) := by decide +kernel
theorem dX10_find_5 : decode cX10_find 5 = .ok (.aload_n 0, 1) := by decide +kernel
theorem dX10_find_6 : decode cX10_find 6 = .ok (.getfield 111, 3) := by decide +kernel
theorem dX10_find_9 : decode cX10_find 9 = .ok (.if_icmp .ge 38, 3) := by decide +kernel
theorem dX10_find_12 : decode cX10_find 12 = .ok (.iload_n 1, 1) := by decide +kernel
theorem dX10_find_13 : decode cX10_find 13 = .ok (.aload_n 0, 1) := by decide +kernel
theorem dX10_find_14 : decode cX10_find 14 = .ok (.aload_n 0, 1) := by decide +kernel
theorem dX10_find_15 : decode cX10_find 15 = .ok (.getfield 117, 3) := by decide +kernel
theorem dX10_find_18 : decode cX10_find 18 = .ok (.iload_n 2, 1) := by decide +kernel
theorem dX10_find_19 : decode cX10_find 19 = .ok (.invokevirtual 133, 3) := by decide +kernel
theorem dX10_find_22 : decode cX10_find 22 = .ok (.aload_n 0, 1) := by decide +kernel
theorem dX10_find_23 : decode cX10_find 23 = .ok (.aload_n 0, 1) := by decide +kernel
theorem dX10_find_24 : decode cX10_find 24 = .ok (.getfield 124, 3) := by decide +kernel
theorem dX10_find_27 : decode cX10_find 27 = .ok (.iload_n 2, 1) := by decide +kernel
theorem dX10_find_28 : decode cX10_find 28 = .ok (.invokevirtual 133, 3) := by decide +kernel
theorem dX10_find_31 : decode cX10_find 31 = .ok (.if_icmp .ne 7, 3) := by decide +kernel
theorem dX10_find_34 : decode cX10_find 34 = .ok (.iconst 0, 1) := by decide +kernel
theorem dX10_find_35 : decode cX10_find 35 = .ok (.goto 4, 3) := by decide +kernel
theorem dX10_find_38 : decode cX10_find 38 = .ok (.iconst 1, 1) := by decide +kernel
theorem dX10_find_39 : decode cX10_find 39 = .ok (.iadd, 1) := by decide +kernel
theorem dX10_find_40 : decode cX10_find 40 = .ok (.istore_n 1, 1) := by decide +kernel
theorem dX10_find_41 : decode cX10_find 41 = .ok (.iinc 2 1, 3) := by decide +kernel
theorem dX10_find_44 : decode cX10_find 44 = .ok (.goto (-40), 3) := by decide +kernel
theorem dX10_find_47 : decode cX10_find 47 = .ok (.iload_n 1, 1) := by decide +kernel
theorem dX10_find_48 : decode cX10_find 48 = .ok (.ifCond .ne 6, 3) := by decide +kernel
theorem dX10_find_51 : decode cX10_find 51 = .ok (.bipush (-3), 2) := by decide +kernel
theorem dX10_find_53 : decode cX10_find 53 = .ok (.ireturn, 1) := by decide +kernel
theorem dX10_find_54 : decode cX10_find 54 = .ok (.aload_n 0, 1) := by decide +kernel
theorem dX10_find_55 : decode cX10_find 55 = .ok (.invokevirtual 153, 3) := by decide +kernel
theorem dX10_find_58 : decode cX10_find 58 = .ok (.aload_n 0, 1) := by decide +kernel
theorem dX10_find_59 : decode cX10_find 59 = .ok (.aload_n 0, 1) := by decide +kernel
theorem dX10_find_60 : decode cX10_find 60 = .ok (.getfield 117, 3) := by decide +kernel
theorem dX10_find_63 : decode cX10_find 63 = .ok (.putfield 124, 3) := by decide +kernel
theorem dX10_find_66 : decode cX10_find 66 = .ok (.iload_n 1, 1) := by decide +kernel
theorem dX10_find_67 : decode cX10_find 67 = .ok (.ireturn, 1) := by decide +kernel
theorem dX10_undo_0 : decode cX10_undo 0 = .ok (.aload_n 0, 1) := by decide +kernel
theorem dX10_undo_1 : decode cX10_undo 1 = .ok (.getfield 130, 3) := by decide +kernel
theorem dX10_undo_4 : decode cX10_undo 4 = .ok (.ifCond .ne 6, 3) := by decide +kernel
theorem dX10_undo_7 : decode cX10_undo 7 = .ok (.bipush (-3), 2) := by decide +kernel
theorem dX10_undo_9 : decode cX10_undo 9 = .ok (.ireturn, 1) := by decide +kernel
theorem dX10_undo_10 : decode cX10_undo 10 = .ok (.aload_n 0, 1) := by decide +kernel
theorem dX10_undo_11 : decode cX10_undo 11 = .ok (.dup, 1) := by decide +kernel
theorem dX10_undo_12 : decode cX10_undo 12 = .ok (.getfield 130, 3) := by decide +kernel
theorem dX10_undo_15 : decode cX10_undo 15 = .ok (.iconst 1, 1) := by decide +kernel
theorem dX10_undo_16 : decode cX10_undo 16 = .ok (.isub, 1) := by decide +kernel
theorem dX10_undo_17 : decode cX10_undo 17 = .ok (.putfield 130, 3) := by decide +kernel
theorem dX10_undo_20 : decode cX10_undo 20 = .ok (.aload_n 0, 1) := by decide +kernel
theorem dX10_undo_21 : decode cX10_undo 21 = .ok (.aload_n 0, 1) := by decide +kernel
theorem dX10_undo_22 : decode cX10_undo 22 = .ok (.getfield 150, 3) := by decide +kernel
theorem dX10_undo_25 : decode cX10_undo 25 = .ok (.bipush 13, 2) := by decide +kernel
theorem dX10_undo_27 : decode cX10_undo 27 = .ok (.iadd, 1) := by decide +kernel
theorem dX10_undo_28 : decode cX10_undo 28 = .ok (.bipush 14, 2) := by decide +kernel
theorem dX10_undo_30 : decode cX10_undo 30 = .ok (.irem, 1) := by decide +kernel
theorem dX10_undo_31 : decode cX10_undo 31 = .ok (.putfield 150, 3) := by decide +kernel
theorem dX10_undo_34 : decode cX10_undo 34 = .ok (.aload_n 0, 1) := by decide +kernel
theorem dX10_undo_35 : decode cX10_undo 35 = .ok (.aload_n 0, 1) := by decide +kernel
theorem dX10_undo_36 : decode cX10_undo 36 = .ok (.getfield 40, 3) := by decide +kernel
theorem dX10_undo_39 : decode cX10_undo 39 = .ok (.iconst 3, 1) := by decide +kernel
theorem dX10_undo_40 : decode cX10_undo 40 = .ok (.aload_n 0, 1) := by decide +kernel
theorem dX10_undo_41 : decode cX10_undo 41 = .ok (.getfield 150, 3) := by decide +kernel
theorem dX10_undo_44 : decode cX10_undo 44 = .ok (.imul, 1) := by decide +kernel
theorem dX10_undo_45 : decode cX10_undo 45 = .ok (.iaload, 1) := by decide +kernel
theorem dX10_undo_46 : decode cX10_undo 46 = .ok (.putfield 117, 3) := by decide +kernel
theorem dX10_undo_49 : decode cX10_undo 49 = .ok (.aload_n 0, 1) := by decide +kernel
theorem dX10_undo_50 : decode cX10_undo 50 = .ok (.aload_n 0, 1) := by decide +kernel
theorem dX10_undo_51 : decode cX10_undo 51 = .ok (.getfield 40, 3) := by decide +kernel
theorem dX10_undo_54 : decode cX10_undo 54 = .ok (.iconst 3, 1) := by decide +kernel
theorem dX10_undo_55 : decode cX10_undo 55 = .ok (.aload_n 0, 1) := by decide +kernel
theorem dX10_undo_56 : decode cX10_undo 56 = .ok (.getfield 150, 3) := by decide +kernel
theorem dX10_undo_59 : decode cX10_undo 59 = .ok (.imul, 1) := by decide +kernel
theorem dX10_undo_60 : decode cX10_undo 60 = .ok (.iconst 1, 1) := by decide +kernel
theorem dX10_undo_61 : decode cX10_undo 61 = .ok (.iadd, 1) := by decide +kernel
theorem dX10_undo_62 : decode cX10_undo 62 = .ok (.iaload, 1) := by decide +kernel
theorem dX10_undo_63 : decode cX10_undo 63 = .ok (.putfield 124, 3) := by decide +kernel
theorem dX10_undo_66 : decode cX10_undo 66 = .ok (.aload_n 0, 1) := by decide +kernel
theorem dX10_undo_67 : decode cX10_undo 67 = .ok (.aload_n 0, 1) := by decide +kernel
theorem dX10_undo_68 : decode cX10_undo 68 = .ok (.getfield 40, 3) := by decide +kernel
theorem dX10_undo_71 : decode cX10_undo 71 = .ok (.iconst 3, 1) := by decide +kernel
theorem dX10_undo_72 : decode cX10_undo 72 = .ok (.aload_n 0, 1) := by decide +kernel
theorem dX10_undo_73 : decode cX10_undo 73 = .ok (.getfield 150, 3) := by decide +kernel
theorem dX10_undo_76 : decode cX10_undo 76 = .ok (.imul, 1) := by decide +kernel
theorem dX10_undo_77 : decode cX10_undo 77 = .ok (.iconst 2, 1) := by decide +kernel
theorem dX10_undo_78 : decode cX10_undo 78 = .ok (.iadd, 1) := by decide +kernel
theorem dX10_undo_79 : decode cX10_undo 79 = .ok (.iaload, 1) := by decide +kernel
theorem dX10_undo_80 : decode cX10_undo 80 = .ok (.putfield 127, 3) := by decide +kernel
theorem dX10_undo_83 : decode cX10_undo 83 = .ok (.aload_n 0, 1) := by decide +kernel
theorem dX10_undo_84 : decode cX10_undo 84 = .ok (.getfield 130, 3) := by decide +kernel
theorem dX10_undo_87 : decode cX10_undo 87 = .ok (.ireturn, 1) := by decide +kernel
theorem dX10_tenTo_0 : decode cX10_tenTo 0 = .ok (.iconst 1, 1) := by decide +kernel
theorem dX10_tenTo_1 : decode cX10_tenTo 1 = .ok (.istore_n 1, 1) := by decide +kernel
theorem dX10_tenTo_2 : decode cX10_tenTo 2 = .ok (.iconst 0, 1) := by decide +kernel
theorem dX10_tenTo_3 : decode cX10_tenTo 3 = .ok (.istore_n 2, 1) := by decide +kernel
theorem dX10_tenTo_4 : decode cX10_tenTo 4 = .ok (.iload_n 2, 1) := by decide +kernel
theorem dX10_tenTo_5 : decode cX10_tenTo 5 = .ok (.iload_n 0, 1) := by decide +kernel
theorem dX10_tenTo_6 : decode cX10_tenTo 6 = .ok (.if_icmp .ge 14, 3) := by decide +kernel
theorem dX10_tenTo_9 : decode cX10_tenTo 9 = .ok (.iload_n 1, 1) := by decide +kernel
theorem dX10_tenTo_10 : decode cX10_tenTo 10 = .ok (.bipush 10, 2) := by decide +kernel
theorem dX10_tenTo_12 : decode cX10_tenTo 12 = .ok (.imul, 1) := by decide +kernel
theorem dX10_tenTo_13 : decode cX10_tenTo 13 = .ok (.istore_n 1, 1) := by decide +kernel
theorem dX10_tenTo_14 : decode cX10_tenTo 14 = .ok (.iinc 2 1, 3) := by decide +kernel
theorem dX10_tenTo_17 : decode cX10_tenTo 17 = .ok (.goto (-13), 3) := by decide +kernel
theorem dX10_tenTo_20 : decode cX10_tenTo 20 = .ok (.iload_n 1, 1) := by decide +kernel
theorem dX10_tenTo_21 : decode cX10_tenTo 21 = .ok (.ireturn, 1) := by decide +kernel
theorem dX10_afterRow_0 : decode cX10_afterRow 0 = .ok (.iload_n 1, 1) := by decide +kernel
theorem dX10_afterRow_1 : decode cX10_afterRow 1 = .ok (.istore 4, 2) := by decide +kernel
theorem dX10_afterRow_3 : decode cX10_afterRow 3 = .ok (.iconst 0, 1) := by decide +kernel
theorem dX10_afterRow_4 : decode cX10_afterRow 4 = .ok (.istore 5, 2) := by decide +kernel
theorem dX10_afterRow_6 : decode cX10_afterRow 6 = .ok (.iload 5, 2) := by decide +kernel
theorem dX10_afterRow_8 : decode cX10_afterRow 8 = .ok (.iload_n 2, 1) := by decide +kernel
theorem dX10_afterRow_9 : decode cX10_afterRow 9 = .ok (.if_icmp .ge 55, 3) := by decide +kernel
theorem dX10_afterRow_12 : decode cX10_afterRow 12 = .ok (.iload_n 3, 1) := by decide +kernel
theorem dX10_afterRow_13 : decode cX10_afterRow 13 = .ok (.iload_n 2, 1) := by decide +kernel
theorem dX10_afterRow_14 : decode cX10_afterRow 14 = .ok (.iconst 1, 1) := by decide +kernel
theorem dX10_afterRow_15 : decode cX10_afterRow 15 = .ok (.isub, 1) := by decide +kernel
theorem dX10_afterRow_16 : decode cX10_afterRow 16 = .ok (.iload 5, 2) := by decide +kernel
theorem dX10_afterRow_18 : decode cX10_afterRow 18 = .ok (.isub, 1) := by decide +kernel
theorem dX10_afterRow_19 : decode cX10_afterRow 19 = .ok (.invokestatic 159, 3) := by decide +kernel
theorem dX10_afterRow_22 : decode cX10_afterRow 22 = .ok (.idiv, 1) := by decide +kernel
theorem dX10_afterRow_23 : decode cX10_afterRow 23 = .ok (.bipush 10, 2) := by decide +kernel
theorem dX10_afterRow_25 : decode cX10_afterRow 25 = .ok (.irem, 1) := by decide +kernel
theorem dX10_afterRow_26 : decode cX10_afterRow 26 = .ok (.iconst 1, 1) := by decide +kernel
theorem dX10_afterRow_27 : decode cX10_afterRow 27 = .ok (.isub, 1) := by decide +kernel
theorem dX10_afterRow_28 : decode cX10_afterRow 28 = .ok (.istore 6, 2) := by decide +kernel
theorem dX10_afterRow_30 : decode cX10_afterRow 30 = .ok (.aload_n 0, 1) := by decide +kernel
theorem dX10_afterRow_31 : decode cX10_afterRow 31 = .ok (.iload 6, 2) := by decide +kernel
theorem dX10_afterRow_33 : decode cX10_afterRow 33 = .ok (.invokevirtual 147, 3) := by decide +kernel
theorem dX10_afterRow_36 : decode cX10_afterRow 36 = .ok (.ifCond .ne 6, 3) := by decide +kernel
theorem dX10_afterRow_39 : decode cX10_afterRow 39 = .ok (.bipush (-9), 2) := by decide +kernel
theorem dX10_afterRow_41 : decode cX10_afterRow 41 = .ok (.ireturn, 1) := by decide +kernel
theorem dX10_afterRow_42 : decode cX10_afterRow 42 = .ok (.aload_n 0, 1) := by decide +kernel
theorem dX10_afterRow_43 : decode cX10_afterRow 43 = .ok (.getfield 25, 3) := by decide +kernel
theorem dX10_afterRow_46 : decode cX10_afterRow 46 = .ok (.sipush 256, 3) := by decide +kernel
theorem dX10_afterRow_49 : decode cX10_afterRow 49 = .ok (.iload 6, 2) := by decide +kernel
theorem dX10_afterRow_51 : decode cX10_afterRow 51 = .ok (.imul, 1) := by decide +kernel
theorem dX10_afterRow_52 : decode cX10_afterRow 52 = .ok (.iload 4, 2) := by decide +kernel
theorem dX10_afterRow_54 : decode cX10_afterRow 54 = .ok (.iadd, 1) := by decide +kernel
theorem dX10_afterRow_55 : decode cX10_afterRow 55 = .ok (.iaload, 1) := by decide +kernel
theorem dX10_afterRow_56 : decode cX10_afterRow 56 = .ok (.istore 4, 2) := by decide +kernel
theorem dX10_afterRow_58 : decode cX10_afterRow 58 = .ok (.iinc 5 1, 3) := by decide +kernel
theorem dX10_afterRow_61 : decode cX10_afterRow 61 = .ok (.goto (-55), 3) := by decide +kernel
theorem dX10_afterRow_64 : decode cX10_afterRow 64 = .ok (.iload 4, 2) := by decide +kernel
theorem dX10_afterRow_66 : decode cX10_afterRow 66 = .ok (.ireturn, 1) := by decide +kernel
theorem dX10_isRow_0 : decode cX10_isRow 0 = .ok (.iload_n 0, 1) := by decide +kernel
theorem dX10_isRow_1 : decode cX10_isRow 1 = .ok (.i2l, 1) := by decide +kernel
theorem dX10_isRow_2 : decode cX10_isRow 2 = .ok (.iload_n 2, 1) := by decide +kernel
theorem dX10_isRow_3 : decode cX10_isRow 3 = .ok (.i2l, 1) := by decide +kernel
theorem dX10_isRow_4 : decode cX10_isRow 4 = .ok (.iload_n 3, 1) := by decide +kernel
theorem dX10_isRow_5 : decode cX10_isRow 5 = .ok (.i2l, 1) := by decide +kernel
theorem dX10_isRow_6 : decode cX10_isRow 6 = .ok (.invokestatic 74, 3) := by decide +kernel
theorem dX10_isRow_9 : decode cX10_isRow 9 = .ok (.ifCond .eq 23, 3) := by decide +kernel
theorem dX10_isRow_12 : decode cX10_isRow 12 = .ok (.iload_n 1, 1) := by decide +kernel
theorem dX10_isRow_13 : decode cX10_isRow 13 = .ok (.i2l, 1) := by decide +kernel
theorem dX10_isRow_14 : decode cX10_isRow 14 = .ok (.lconst 0, 1) := by decide +kernel
theorem dX10_isRow_15 : decode cX10_isRow 15 = .ok (.iload_n 0, 1) := by decide +kernel
theorem dX10_isRow_16 : decode cX10_isRow 16 = .ok (.invokestatic 159, 3) := by decide +kernel
theorem dX10_isRow_19 : decode cX10_isRow 19 = .ok (.iconst 1, 1) := by decide +kernel
theorem dX10_isRow_20 : decode cX10_isRow 20 = .ok (.isub, 1) := by decide +kernel
theorem dX10_isRow_21 : decode cX10_isRow 21 = .ok (.i2l, 1) := by decide +kernel
theorem dX10_isRow_22 : decode cX10_isRow 22 = .ok (.invokestatic 74, 3) := by decide +kernel
theorem dX10_isRow_25 : decode cX10_isRow 25 = .ok (.ifCond .eq 7, 3) := by decide +kernel
theorem dX10_isRow_28 : decode cX10_isRow 28 = .ok (.iconst 1, 1) := by decide +kernel
theorem dX10_isRow_29 : decode cX10_isRow 29 = .ok (.goto 4, 3) := by decide +kernel
theorem dX10_isRow_32 : decode cX10_isRow 32 = .ok (.iconst 0, 1) := by decide +kernel
theorem dX10_isRow_33 : decode cX10_isRow 33 = .ok (.ireturn, 1) := by decide +kernel
theorem dX10_after_0 : decode cX10_after 0 = .ok (.iload_n 1, 1) := by decide +kernel
theorem dX10_after_1 : decode cX10_after 1 = .ok (.iload_n 2, 1) := by decide +kernel
theorem dX10_after_2 : decode cX10_after 2 = .ok (.iconst 1, 1) := by decide +kernel
theorem dX10_after_3 : decode cX10_after 3 = .ok (.bipush 6, 2) := by decide +kernel
theorem dX10_after_5 : decode cX10_after 5 = .ok (.invokestatic 162, 3) := by decide +kernel
theorem dX10_after_8 : decode cX10_after 8 = .ok (.ifCond .ne 6, 3) := by decide +kernel
theorem dX10_after_11 : decode cX10_after 11 = .ok (.bipush (-2), 2) := by decide +kernel
theorem dX10_after_13 : decode cX10_after 13 = .ok (.ireturn, 1) := by decide +kernel
theorem dX10_after_14 : decode cX10_after 14 = .ok (.aload_n 0, 1) := by decide +kernel
theorem dX10_after_15 : decode cX10_after 15 = .ok (.aload_n 0, 1) := by decide +kernel
theorem dX10_after_16 : decode cX10_after 16 = .ok (.getfield 117, 3) := by decide +kernel
theorem dX10_after_19 : decode cX10_after 19 = .ok (.iload_n 1, 1) := by decide +kernel
theorem dX10_after_20 : decode cX10_after 20 = .ok (.iload_n 2, 1) := by decide +kernel
theorem dX10_after_21 : decode cX10_after 21 = .ok (.invokevirtual 166, 3) := by decide +kernel
theorem dX10_after_24 : decode cX10_after 24 = .ok (.istore_n 3, 1) := by decide +kernel
theorem dX10_after_25 : decode cX10_after 25 = .ok (.iload_n 3, 1) := by decide +kernel
theorem dX10_after_26 : decode cX10_after 26 = .ok (.bipush (-9), 2) := by decide +kernel
theorem dX10_after_28 : decode cX10_after 28 = .ok (.if_icmp .ne 8, 3) := by decide +kernel
theorem dX10_after_31 : decode cX10_after 31 = .ok (.bipush (-3), 2) := by decide +kernel
theorem dX10_after_33 : decode cX10_after 33 = .ok (.goto 8, 3) := by decide +kernel
theorem dX10_after_36 : decode cX10_after 36 = .ok (.aload_n 0, 1) := by decide +kernel
theorem dX10_after_37 : decode cX10_after 37 = .ok (.iload_n 3, 1) := by decide +kernel
theorem dX10_after_38 : decode cX10_after 38 = .ok (.invokevirtual 156, 3) := by decide +kernel
theorem dX10_after_41 : decode cX10_after 41 = .ok (.ireturn, 1) := by decide +kernel
theorem dX10_all_0 : decode cX10_all 0 = .ok (.aload_n 0, 1) := by decide +kernel
theorem dX10_all_1 : decode cX10_all 1 = .ok (.getfield 117, 3) := by decide +kernel
theorem dX10_all_4 : decode cX10_all 4 = .ok (.istore_n 1, 1) := by decide +kernel
theorem dX10_all_5 : decode cX10_all 5 = .ok (.iconst 0, 1) := by decide +kernel
theorem dX10_all_6 : decode cX10_all 6 = .ok (.istore_n 2, 1) := by decide +kernel
theorem dX10_all_7 : decode cX10_all 7 = .ok (.iload_n 2, 1) := by decide +kernel
theorem dX10_all_8 : decode cX10_all 8 = .ok (.aload_n 0, 1) := by decide +kernel
theorem dX10_all_9 : decode cX10_all 9 = .ok (.getfield 114, 3) := by decide +kernel
theorem dX10_all_12 : decode cX10_all 12 = .ok (.if_icmp .ge 22, 3) := by decide +kernel
theorem dX10_all_15 : decode cX10_all 15 = .ok (.aload_n 0, 1) := by decide +kernel
theorem dX10_all_16 : decode cX10_all 16 = .ok (.getfield 25, 3) := by decide +kernel
theorem dX10_all_19 : decode cX10_all 19 = .ok (.sipush 256, 3) := by decide +kernel
theorem dX10_all_22 : decode cX10_all 22 = .ok (.iload_n 2, 1) := by decide +kernel
theorem dX10_all_23 : decode cX10_all 23 = .ok (.imul, 1) := by decide +kernel
theorem dX10_all_24 : decode cX10_all 24 = .ok (.iload_n 1, 1) := by decide +kernel
theorem dX10_all_25 : decode cX10_all 25 = .ok (.iadd, 1) := by decide +kernel
theorem dX10_all_26 : decode cX10_all 26 = .ok (.iaload, 1) := by decide +kernel
theorem dX10_all_27 : decode cX10_all 27 = .ok (.istore_n 1, 1) := by decide +kernel
theorem dX10_all_28 : decode cX10_all 28 = .ok (.iinc 2 1, 3) := by decide +kernel
theorem dX10_all_31 : decode cX10_all 31 = .ok (.goto (-24), 3) := by decide +kernel
theorem dX10_all_34 : decode cX10_all 34 = .ok (.aload_n 0, 1) := by decide +kernel
theorem dX10_all_35 : decode cX10_all 35 = .ok (.iload_n 1, 1) := by decide +kernel
theorem dX10_all_36 : decode cX10_all 36 = .ok (.invokevirtual 156, 3) := by decide +kernel
theorem dX10_all_39 : decode cX10_all 39 = .ok (.ireturn, 1) := by decide +kernel
theorem dX10_layFar_0 : decode cX10_layFar 0 = .ok (.iconst 0, 1) := by decide +kernel
theorem dX10_layFar_1 : decode cX10_layFar 1 = .ok (.istore_n 3, 1) := by decide +kernel
theorem dX10_layFar_2 : decode cX10_layFar 2 = .ok (.iload_n 3, 1) := by decide +kernel
theorem dX10_layFar_3 : decode cX10_layFar 3 = .ok (.aload_n 0, 1) := by decide +kernel
theorem dX10_layFar_4 : decode cX10_layFar 4 = .ok (.getfield 68, 3) := by decide +kernel
theorem dX10_layFar_7 : decode cX10_layFar 7 = .ok (.if_icmp .ge 26, 3) := by decide +kernel
theorem dX10_layFar_10 : decode cX10_layFar 10 = .ok (.aload_n 0, 1) := by decide +kernel
theorem dX10_layFar_11 : decode cX10_layFar 11 = .ok (.getfield 43, 3) := by decide +kernel
theorem dX10_layFar_14 : decode cX10_layFar 14 = .ok (.iload_n 3, 1) := by decide +kernel
theorem dX10_layFar_15 : decode cX10_layFar 15 = .ok (.iload_n 3, 1) := by decide +kernel
theorem dX10_layFar_16 : decode cX10_layFar 16 = .ok (.iload_n 1, 1) := by decide +kernel
theorem dX10_layFar_17 : decode cX10_layFar 17 = .ok (.if_icmp .ne 7, 3) := by decide +kernel
theorem dX10_layFar_20 : decode cX10_layFar 20 = .ok (.iconst 0, 1) := by decide +kernel
theorem dX10_layFar_21 : decode cX10_layFar 21 = .ok (.goto 5, 3) := by decide +kernel
theorem dX10_layFar_24 : decode cX10_layFar 24 = .ok (.bipush (-9), 2) := by decide +kernel
theorem dX10_layFar_26 : decode cX10_layFar 26 = .ok (.iastore, 1) := by decide +kernel
theorem dX10_layFar_27 : decode cX10_layFar 27 = .ok (.iinc 3 1, 3) := by decide +kernel
theorem dX10_layFar_30 : decode cX10_layFar 30 = .ok (.goto (-28), 3) := by decide +kernel
theorem dX10_layFar_33 : decode cX10_layFar 33 = .ok (.iconst 0, 1) := by decide +kernel
theorem dX10_layFar_34 : decode cX10_layFar 34 = .ok (.istore_n 3, 1) := by decide +kernel
theorem dX10_layFar_35 : decode cX10_layFar 35 = .ok (.iconst 1, 1) := by decide +kernel
theorem dX10_layFar_36 : decode cX10_layFar 36 = .ok (.istore 4, 2) := by decide +kernel
theorem dX10_layFar_38 : decode cX10_layFar 38 = .ok (.iload 4, 2) := by decide +kernel
theorem dX10_layFar_40 : decode cX10_layFar 40 = .ok (.ifCond .eq 115, 3) := by decide +kernel
theorem dX10_layFar_43 : decode cX10_layFar 43 = .ok (.iconst 0, 1) := by decide +kernel
theorem dX10_layFar_44 : decode cX10_layFar 44 = .ok (.istore 4, 2) := by decide +kernel
theorem dX10_layFar_46 : decode cX10_layFar 46 = .ok (.iconst 0, 1) := by decide +kernel
theorem dX10_layFar_47 : decode cX10_layFar 47 = .ok (.istore 5, 2) := by decide +kernel
theorem dX10_layFar_49 : decode cX10_layFar 49 = .ok (.iload 5, 2) := by decide +kernel
theorem dX10_layFar_51 : decode cX10_layFar 51 = .ok (.aload_n 0, 1) := by decide +kernel
theorem dX10_layFar_52 : decode cX10_layFar 52 = .ok (.getfield 68, 3) := by decide +kernel
theorem dX10_layFar_55 : decode cX10_layFar 55 = .ok (.if_icmp .ge 84, 3) := by decide +kernel
theorem dX10_layFar_58 : decode cX10_layFar 58 = .ok (.iconst 0, 1) := by decide +kernel
theorem dX10_layFar_59 : decode cX10_layFar 59 = .ok (.istore 6, 2) := by decide +kernel
theorem dX10_layFar_61 : decode cX10_layFar 61 = .ok (.iload 6, 2) := by decide +kernel
theorem dX10_layFar_63 : decode cX10_layFar 63 = .ok (.aload_n 0, 1) := by decide +kernel
theorem dX10_layFar_64 : decode cX10_layFar 64 = .ok (.getfield 114, 3) := by decide +kernel
theorem dX10_layFar_67 : decode cX10_layFar 67 = .ok (.if_icmp .ge 66, 3) := by decide +kernel
theorem dX10_layFar_70 : decode cX10_layFar 70 = .ok (.aload_n 0, 1) := by decide +kernel
theorem dX10_layFar_71 : decode cX10_layFar 71 = .ok (.getfield 43, 3) := by decide +kernel
theorem dX10_layFar_74 : decode cX10_layFar 74 = .ok (.iload 5, 2) := by decide +kernel
theorem dX10_layFar_76 : decode cX10_layFar 76 = .ok (.iaload, 1) := by decide +kernel
theorem dX10_layFar_77 : decode cX10_layFar 77 = .ok (.bipush (-9), 2) := by decide +kernel
theorem dX10_layFar_79 : decode cX10_layFar 79 = .ok (.if_icmp .ne 54, 3) := by decide +kernel
theorem dX10_layFar_82 : decode cX10_layFar 82 = .ok (.iload_n 2, 1) := by decide +kernel
theorem dX10_layFar_83 : decode cX10_layFar 83 = .ok (.iload 6, 2) := by decide +kernel
theorem dX10_layFar_85 : decode cX10_layFar 85 = .ok (.invokestatic 89, 3) := by decide +kernel
theorem dX10_layFar_88 : decode cX10_layFar 88 = .ok (.ifCond .eq 39, 3) := by decide +kernel
theorem dX10_layFar_91 : decode cX10_layFar 91 = .ok (.aload_n 0, 1) := by decide +kernel
theorem dX10_layFar_92 : decode cX10_layFar 92 = .ok (.getfield 43, 3) := by decide +kernel
theorem dX10_layFar_95 : decode cX10_layFar 95 = .ok (.aload_n 0, 1) := by decide +kernel
theorem dX10_layFar_96 : decode cX10_layFar 96 = .ok (.getfield 25, 3) := by decide +kernel
theorem dX10_layFar_99 : decode cX10_layFar 99 = .ok (.sipush 256, 3) := by decide +kernel
theorem dX10_layFar_102 : decode cX10_layFar 102 = .ok (.iload 6, 2) := by decide +kernel
theorem dX10_layFar_104 : decode cX10_layFar 104 = .ok (.imul, 1) := by decide +kernel
theorem dX10_layFar_105 : decode cX10_layFar 105 = .ok (.iload 5, 2) := by decide +kernel
theorem dX10_layFar_107 : decode cX10_layFar 107 = .ok (.iadd, 1) := by decide +kernel
theorem dX10_layFar_108 : decode cX10_layFar 108 = .ok (.iaload, 1) := by decide +kernel
theorem dX10_layFar_109 : decode cX10_layFar 109 = .ok (.iaload, 1) := by decide +kernel
theorem dX10_layFar_110 : decode cX10_layFar 110 = .ok (.iload_n 3, 1) := by decide +kernel
theorem dX10_layFar_111 : decode cX10_layFar 111 = .ok (.if_icmp .ne 16, 3) := by decide +kernel
theorem dX10_layFar_114 : decode cX10_layFar 114 = .ok (.aload_n 0, 1) := by decide +kernel
theorem dX10_layFar_115 : decode cX10_layFar 115 = .ok (.getfield 43, 3) := by decide +kernel
theorem dX10_layFar_118 : decode cX10_layFar 118 = .ok (.iload 5, 2) := by decide +kernel
theorem dX10_layFar_120 : decode cX10_layFar 120 = .ok (.iload_n 3, 1) := by decide +kernel
theorem dX10_layFar_121 : decode cX10_layFar 121 = .ok (.iconst 1, 1) := by decide +kernel
theorem dX10_layFar_122 : decode cX10_layFar 122 = .ok (.iadd, 1) := by decide +kernel
theorem dX10_layFar_123 : decode cX10_layFar 123 = .ok (.iastore, 1) := by decide +kernel
theorem dX10_layFar_124 : decode cX10_layFar 124 = .ok (.iconst 1, 1) := by decide +kernel
theorem dX10_layFar_125 : decode cX10_layFar 125 = .ok (.istore 4, 2) := by decide +kernel
theorem dX10_layFar_127 : decode cX10_layFar 127 = .ok (.iinc 6 1, 3) := by decide +kernel
theorem dX10_layFar_130 : decode cX10_layFar 130 = .ok (.goto (-69), 3) := by decide +kernel
theorem dX10_layFar_133 : decode cX10_layFar 133 = .ok (.iinc 5 1, 3) := by decide +kernel
theorem dX10_layFar_136 : decode cX10_layFar 136 = .ok (.goto (-87), 3) := by decide +kernel
theorem dX10_layFar_139 : decode cX10_layFar 139 = .ok (.iload_n 3, 1) := by decide +kernel
theorem dX10_layFar_140 : decode cX10_layFar 140 = .ok (.iload 4, 2) := by decide +kernel
theorem dX10_layFar_142 : decode cX10_layFar 142 = .ok (.ifCond .eq 7, 3) := by decide +kernel
theorem dX10_layFar_145 : decode cX10_layFar 145 = .ok (.iconst 1, 1) := by decide +kernel
theorem dX10_layFar_146 : decode cX10_layFar 146 = .ok (.goto 4, 3) := by decide +kernel
theorem dX10_layFar_149 : decode cX10_layFar 149 = .ok (.iconst 0, 1) := by decide +kernel
theorem dX10_layFar_150 : decode cX10_layFar 150 = .ok (.iadd, 1) := by decide +kernel
theorem dX10_layFar_151 : decode cX10_layFar 151 = .ok (.istore_n 3, 1) := by decide +kernel
theorem dX10_layFar_152 : decode cX10_layFar 152 = .ok (.goto (-114), 3) := by decide +kernel
theorem dX10_layFar_155 : decode cX10_layFar 155 = .ok (.iload_n 3, 1) := by decide +kernel
theorem dX10_layFar_156 : decode cX10_layFar 156 = .ok (.ireturn, 1) := by decide +kernel
theorem dX10_every_0 : decode cX10_every 0 = .ok (.iconst 1, 1) := by decide +kernel
theorem dX10_every_1 : decode cX10_every 1 = .ok (.aload_n 0, 1) := by decide +kernel
theorem dX10_every_2 : decode cX10_every 2 = .ok (.getfield 114, 3) := by decide +kernel
theorem dX10_every_5 : decode cX10_every 5 = .ok (.ishl, 1) := by decide +kernel
theorem dX10_every_6 : decode cX10_every 6 = .ok (.iconst 1, 1) := by decide +kernel
theorem dX10_every_7 : decode cX10_every 7 = .ok (.isub, 1) := by decide +kernel
theorem dX10_every_8 : decode cX10_every 8 = .ok (.ireturn, 1) := by decide +kernel
theorem dX10_fewest_0 : decode cX10_fewest 0 = .ok (.aload_n 0, 1) := by decide +kernel
theorem dX10_fewest_1 : decode cX10_fewest 1 = .ok (.iload_n 1, 1) := by decide +kernel
theorem dX10_fewest_2 : decode cX10_fewest 2 = .ok (.invokevirtual 169, 3) := by decide +kernel
theorem dX10_fewest_5 : decode cX10_fewest 5 = .ok (.istore_n 3, 1) := by decide +kernel
theorem dX10_fewest_6 : decode cX10_fewest 6 = .ok (.iload_n 3, 1) := by decide +kernel
theorem dX10_fewest_7 : decode cX10_fewest 7 = .ok (.bipush (-9), 2) := by decide +kernel
theorem dX10_fewest_9 : decode cX10_fewest 9 = .ok (.if_icmp .ne 6, 3) := by decide +kernel
theorem dX10_fewest_12 : decode cX10_fewest 12 = .ok (.bipush (-2), 2) := by decide +kernel
theorem dX10_fewest_14 : decode cX10_fewest 14 = .ok (.ireturn, 1) := by decide +kernel
theorem dX10_fewest_15 : decode cX10_fewest 15 = .ok (.aload_n 0, 1) := by decide +kernel
theorem dX10_fewest_16 : decode cX10_fewest 16 = .ok (.iload_n 3, 1) := by decide +kernel
theorem dX10_fewest_17 : decode cX10_fewest 17 = .ok (.aload_n 0, 1) := by decide +kernel
theorem dX10_fewest_18 : decode cX10_fewest 18 = .ok (.invokevirtual 172, 3) := by decide +kernel
theorem dX10_fewest_21 : decode cX10_fewest 21 = .ok (.invokevirtual 175, 3) := by decide +kernel
theorem dX10_fewest_24 : decode cX10_fewest 24 = .ok (.pop, 1) := by decide +kernel
theorem dX10_fewest_25 : decode cX10_fewest 25 = .ok (.iload_n 2, 1) := by decide +kernel
theorem dX10_fewest_26 : decode cX10_fewest 26 = .ok (.ifCond .eq 31, 3) := by decide +kernel
theorem dX10_fewest_29 : decode cX10_fewest 29 = .ok (.aload_n 0, 1) := by decide +kernel
theorem dX10_fewest_30 : decode cX10_fewest 30 = .ok (.getfield 43, 3) := by decide +kernel
theorem dX10_fewest_33 : decode cX10_fewest 33 = .ok (.aload_n 0, 1) := by decide +kernel
theorem dX10_fewest_34 : decode cX10_fewest 34 = .ok (.getfield 117, 3) := by decide +kernel
theorem dX10_fewest_37 : decode cX10_fewest 37 = .ok (.iaload, 1) := by decide +kernel
theorem dX10_fewest_38 : decode cX10_fewest 38 = .ok (.bipush (-9), 2) := by decide +kernel
theorem dX10_fewest_40 : decode cX10_fewest 40 = .ok (.if_icmp .eq 17, 3) := by decide +kernel
theorem dX10_fewest_43 : decode cX10_fewest 43 = .ok (.aload_n 0, 1) := by decide +kernel
theorem dX10_fewest_44 : decode cX10_fewest 44 = .ok (.getfield 43, 3) := by decide +kernel
theorem dX10_fewest_47 : decode cX10_fewest 47 = .ok (.aload_n 0, 1) := by decide +kernel
theorem dX10_fewest_48 : decode cX10_fewest 48 = .ok (.getfield 117, 3) := by decide +kernel
theorem dX10_fewest_51 : decode cX10_fewest 51 = .ok (.iaload, 1) := by decide +kernel
theorem dX10_fewest_52 : decode cX10_fewest 52 = .ok (.bipush 9, 2) := by decide +kernel
theorem dX10_fewest_54 : decode cX10_fewest 54 = .ok (.if_icmp .le 22, 3) := by decide +kernel
theorem dX10_fewest_57 : decode cX10_fewest 57 = .ok (.iload_n 2, 1) := by decide +kernel
theorem dX10_fewest_58 : decode cX10_fewest 58 = .ok (.ifCond .eq 8, 3) := by decide +kernel
theorem dX10_fewest_61 : decode cX10_fewest 61 = .ok (.bipush (-9), 2) := by decide +kernel
theorem dX10_fewest_63 : decode cX10_fewest 63 = .ok (.goto 12, 3) := by decide +kernel
theorem dX10_fewest_66 : decode cX10_fewest 66 = .ok (.aload_n 0, 1) := by decide +kernel
theorem dX10_fewest_67 : decode cX10_fewest 67 = .ok (.getfield 43, 3) := by decide +kernel
theorem dX10_fewest_70 : decode cX10_fewest 70 = .ok (.aload_n 0, 1) := by decide +kernel
theorem dX10_fewest_71 : decode cX10_fewest 71 = .ok (.getfield 117, 3) := by decide +kernel
theorem dX10_fewest_74 : decode cX10_fewest 74 = .ok (.iaload, 1) := by decide +kernel
theorem dX10_fewest_75 : decode cX10_fewest 75 = .ok (.ireturn, 1) := by decide +kernel
theorem dX10_fewest_76 : decode cX10_fewest 76 = .ok (.iconst 0, 1) := by decide +kernel
theorem dX10_fewest_77 : decode cX10_fewest 77 = .ok (.istore 4, 2) := by decide +kernel
theorem dX10_fewest_79 : decode cX10_fewest 79 = .ok (.aload_n 0, 1) := by decide +kernel
theorem dX10_fewest_80 : decode cX10_fewest 80 = .ok (.getfield 117, 3) := by decide +kernel
theorem dX10_fewest_83 : decode cX10_fewest 83 = .ok (.istore 5, 2) := by decide +kernel
theorem dX10_fewest_85 : decode cX10_fewest 85 = .ok (.aload_n 0, 1) := by decide +kernel
theorem dX10_fewest_86 : decode cX10_fewest 86 = .ok (.getfield 43, 3) := by decide +kernel
theorem dX10_fewest_89 : decode cX10_fewest 89 = .ok (.iload 5, 2) := by decide +kernel
theorem dX10_fewest_91 : decode cX10_fewest 91 = .ok (.iaload, 1) := by decide +kernel
theorem dX10_fewest_92 : decode cX10_fewest 92 = .ok (.ifCond .le 74, 3) := by decide +kernel
theorem dX10_fewest_95 : decode cX10_fewest 95 = .ok (.iconst 0, 1) := by decide +kernel
theorem dX10_fewest_96 : decode cX10_fewest 96 = .ok (.istore 6, 2) := by decide +kernel
theorem dX10_fewest_98 : decode cX10_fewest 98 = .ok (.aload_n 0, 1) := by decide +kernel
theorem dX10_fewest_99 : decode cX10_fewest 99 = .ok (.getfield 43, 3) := by decide +kernel
theorem dX10_fewest_102 : decode cX10_fewest 102 = .ok (.aload_n 0, 1) := by decide +kernel
theorem dX10_fewest_103 : decode cX10_fewest 103 = .ok (.getfield 25, 3) := by decide +kernel
theorem dX10_fewest_106 : decode cX10_fewest 106 = .ok (.sipush 256, 3) := by decide +kernel
theorem dX10_fewest_109 : decode cX10_fewest 109 = .ok (.iload 6, 2) := by decide +kernel
theorem dX10_fewest_111 : decode cX10_fewest 111 = .ok (.imul, 1) := by decide +kernel
theorem dX10_fewest_112 : decode cX10_fewest 112 = .ok (.iload 5, 2) := by decide +kernel
theorem dX10_fewest_114 : decode cX10_fewest 114 = .ok (.iadd, 1) := by decide +kernel
theorem dX10_fewest_115 : decode cX10_fewest 115 = .ok (.iaload, 1) := by decide +kernel
theorem dX10_fewest_116 : decode cX10_fewest 116 = .ok (.iaload, 1) := by decide +kernel
theorem dX10_fewest_117 : decode cX10_fewest 117 = .ok (.aload_n 0, 1) := by decide +kernel
theorem dX10_fewest_118 : decode cX10_fewest 118 = .ok (.getfield 43, 3) := by decide +kernel
theorem dX10_fewest_121 : decode cX10_fewest 121 = .ok (.iload 5, 2) := by decide +kernel
theorem dX10_fewest_123 : decode cX10_fewest 123 = .ok (.iaload, 1) := by decide +kernel
theorem dX10_fewest_124 : decode cX10_fewest 124 = .ok (.iconst 1, 1) := by decide +kernel
theorem dX10_fewest_125 : decode cX10_fewest 125 = .ok (.isub, 1) := by decide +kernel
theorem dX10_fewest_126 : decode cX10_fewest 126 = .ok (.if_icmp .eq 9, 3) := by decide +kernel
theorem dX10_fewest_129 : decode cX10_fewest 129 = .ok (.iinc 6 1, 3) := by decide +kernel
theorem dX10_fewest_132 : decode cX10_fewest 132 = .ok (.goto (-34), 3) := by decide +kernel
theorem dX10_fewest_135 : decode cX10_fewest 135 = .ok (.bipush 10, 2) := by decide +kernel
theorem dX10_fewest_137 : decode cX10_fewest 137 = .ok (.iload 4, 2) := by decide +kernel
theorem dX10_fewest_139 : decode cX10_fewest 139 = .ok (.imul, 1) := by decide +kernel
theorem dX10_fewest_140 : decode cX10_fewest 140 = .ok (.iload 6, 2) := by decide +kernel
theorem dX10_fewest_142 : decode cX10_fewest 142 = .ok (.iadd, 1) := by decide +kernel
theorem dX10_fewest_143 : decode cX10_fewest 143 = .ok (.iconst 1, 1) := by decide +kernel
theorem dX10_fewest_144 : decode cX10_fewest 144 = .ok (.iadd, 1) := by decide +kernel
theorem dX10_fewest_145 : decode cX10_fewest 145 = .ok (.istore 4, 2) := by decide +kernel
theorem dX10_fewest_147 : decode cX10_fewest 147 = .ok (.aload_n 0, 1) := by decide +kernel
theorem dX10_fewest_148 : decode cX10_fewest 148 = .ok (.getfield 25, 3) := by decide +kernel
theorem dX10_fewest_151 : decode cX10_fewest 151 = .ok (.sipush 256, 3) := by decide +kernel
theorem dX10_fewest_154 : decode cX10_fewest 154 = .ok (.iload 6, 2) := by decide +kernel
theorem dX10_fewest_156 : decode cX10_fewest 156 = .ok (.imul, 1) := by decide +kernel
theorem dX10_fewest_157 : decode cX10_fewest 157 = .ok (.iload 5, 2) := by decide +kernel
theorem dX10_fewest_159 : decode cX10_fewest 159 = .ok (.iadd, 1) := by decide +kernel
theorem dX10_fewest_160 : decode cX10_fewest 160 = .ok (.iaload, 1) := by decide +kernel
theorem dX10_fewest_161 : decode cX10_fewest 161 = .ok (.istore 5, 2) := by decide +kernel
theorem dX10_fewest_163 : decode cX10_fewest 163 = .ok (.goto (-78), 3) := by decide +kernel
theorem dX10_fewest_166 : decode cX10_fewest 166 = .ok (.iload 4, 2) := by decide +kernel
theorem dX10_fewest_168 : decode cX10_fewest 168 = .ok (.ireturn, 1) := by decide +kernel
theorem dX10_reached_0 : decode cX10_reached 0 = .ok (.aload_n 0, 1) := by decide +kernel
theorem dX10_reached_1 : decode cX10_reached 1 = .ok (.iload_n 1, 1) := by decide +kernel
theorem dX10_reached_2 : decode cX10_reached 2 = .ok (.iload_n 2, 1) := by decide +kernel
theorem dX10_reached_3 : decode cX10_reached 3 = .ok (.invokevirtual 175, 3) := by decide +kernel
theorem dX10_reached_6 : decode cX10_reached 6 = .ok (.pop, 1) := by decide +kernel
theorem dX10_reached_7 : decode cX10_reached 7 = .ok (.iconst 0, 1) := by decide +kernel
theorem dX10_reached_8 : decode cX10_reached 8 = .ok (.istore_n 3, 1) := by decide +kernel
theorem dX10_reached_9 : decode cX10_reached 9 = .ok (.iconst 0, 1) := by decide +kernel
theorem dX10_reached_10 : decode cX10_reached 10 = .ok (.istore 4, 2) := by decide +kernel
theorem dX10_reached_12 : decode cX10_reached 12 = .ok (.iload 4, 2) := by decide +kernel
theorem dX10_reached_14 : decode cX10_reached 14 = .ok (.aload_n 0, 1) := by decide +kernel
theorem dX10_reached_15 : decode cX10_reached 15 = .ok (.getfield 68, 3) := by decide +kernel
theorem dX10_reached_18 : decode cX10_reached 18 = .ok (.if_icmp .ge 29, 3) := by decide +kernel
theorem dX10_reached_21 : decode cX10_reached 21 = .ok (.iload_n 3, 1) := by decide +kernel
theorem dX10_reached_22 : decode cX10_reached 22 = .ok (.aload_n 0, 1) := by decide +kernel
theorem dX10_reached_23 : decode cX10_reached 23 = .ok (.getfield 43, 3) := by decide +kernel
theorem dX10_reached_26 : decode cX10_reached 26 = .ok (.iload 4, 2) := by decide +kernel
theorem dX10_reached_28 : decode cX10_reached 28 = .ok (.iaload, 1) := by decide +kernel
theorem dX10_reached_29 : decode cX10_reached 29 = .ok (.bipush (-9), 2) := by decide +kernel
theorem dX10_reached_31 : decode cX10_reached 31 = .ok (.if_icmp .ne 7, 3) := by decide +kernel
theorem dX10_reached_34 : decode cX10_reached 34 = .ok (.iconst 0, 1) := by decide +kernel
theorem dX10_reached_35 : decode cX10_reached 35 = .ok (.goto 4, 3) := by decide +kernel
theorem dX10_reached_38 : decode cX10_reached 38 = .ok (.iconst 1, 1) := by decide +kernel
theorem dX10_reached_39 : decode cX10_reached 39 = .ok (.iadd, 1) := by decide +kernel
theorem dX10_reached_40 : decode cX10_reached 40 = .ok (.istore_n 3, 1) := by decide +kernel
theorem dX10_reached_41 : decode cX10_reached 41 = .ok (.iinc 4 1, 3) := by decide +kernel
theorem dX10_reached_44 : decode cX10_reached 44 = .ok (.goto (-32), 3) := by decide +kernel
theorem dX10_reached_47 : decode cX10_reached 47 = .ok (.iload_n 3, 1) := by decide +kernel
theorem dX10_reached_48 : decode cX10_reached 48 = .ok (.ireturn, 1) := by decide +kernel
theorem dX10_worst_0 : decode cX10_worst 0 = .ok (.aload_n 0, 1) := by decide +kernel
theorem dX10_worst_1 : decode cX10_worst 1 = .ok (.iload_n 1, 1) := by decide +kernel
theorem dX10_worst_2 : decode cX10_worst 2 = .ok (.invokevirtual 169, 3) := by decide +kernel
theorem dX10_worst_5 : decode cX10_worst 5 = .ok (.istore_n 3, 1) := by decide +kernel
theorem dX10_worst_6 : decode cX10_worst 6 = .ok (.iload_n 3, 1) := by decide +kernel
theorem dX10_worst_7 : decode cX10_worst 7 = .ok (.bipush (-9), 2) := by decide +kernel
theorem dX10_worst_9 : decode cX10_worst 9 = .ok (.if_icmp .eq 13, 3) := by decide +kernel
theorem dX10_worst_12 : decode cX10_worst 12 = .ok (.iload_n 2, 1) := by decide +kernel
theorem dX10_worst_13 : decode cX10_worst 13 = .ok (.i2l, 1) := by decide +kernel
theorem dX10_worst_14 : decode cX10_worst 14 = .ok (.lconst 0, 1) := by decide +kernel
theorem dX10_worst_15 : decode cX10_worst 15 = .ok (.lconst 1, 1) := by decide +kernel
theorem dX10_worst_16 : decode cX10_worst 16 = .ok (.invokestatic 74, 3) := by decide +kernel
theorem dX10_worst_19 : decode cX10_worst 19 = .ok (.ifCond .ne 6, 3) := by decide +kernel
theorem dX10_worst_22 : decode cX10_worst 22 = .ok (.bipush (-2), 2) := by decide +kernel
theorem dX10_worst_24 : decode cX10_worst 24 = .ok (.ireturn, 1) := by decide +kernel
theorem dX10_worst_25 : decode cX10_worst 25 = .ok (.iload_n 2, 1) := by decide +kernel
theorem dX10_worst_26 : decode cX10_worst 26 = .ok (.ifCond .ne 15, 3) := by decide +kernel
theorem dX10_worst_29 : decode cX10_worst 29 = .ok (.aload_n 0, 1) := by decide +kernel
theorem dX10_worst_30 : decode cX10_worst 30 = .ok (.iload_n 3, 1) := by decide +kernel
theorem dX10_worst_31 : decode cX10_worst 31 = .ok (.aload_n 0, 1) := by decide +kernel
theorem dX10_worst_32 : decode cX10_worst 32 = .ok (.invokevirtual 172, 3) := by decide +kernel
theorem dX10_worst_35 : decode cX10_worst 35 = .ok (.invokevirtual 175, 3) := by decide +kernel
theorem dX10_worst_38 : decode cX10_worst 38 = .ok (.goto 12, 3) := by decide +kernel
theorem dX10_worst_41 : decode cX10_worst 41 = .ok (.aload_n 0, 1) := by decide +kernel
theorem dX10_worst_42 : decode cX10_worst 42 = .ok (.iload_n 3, 1) := by decide +kernel
theorem dX10_worst_43 : decode cX10_worst 43 = .ok (.aload_n 0, 1) := by decide +kernel
theorem dX10_worst_44 : decode cX10_worst 44 = .ok (.invokevirtual 172, 3) := by decide +kernel
theorem dX10_worst_47 : decode cX10_worst 47 = .ok (.invokevirtual 178, 3) := by decide +kernel
theorem dX10_worst_50 : decode cX10_worst 50 = .ok (.ireturn, 1) := by decide +kernel
theorem dX10_isSure_0 : decode cX10_isSure 0 = .ok (.iconst 1, 1) := by decide +kernel
theorem dX10_isSure_1 : decode cX10_isSure 1 = .ok (.istore 4, 2) := by decide +kernel
theorem dX10_isSure_3 : decode cX10_isSure 3 = .ok (.iconst 0, 1) := by decide +kernel
theorem dX10_isSure_4 : decode cX10_isSure 4 = .ok (.istore 5, 2) := by decide +kernel
theorem dX10_isSure_6 : decode cX10_isSure 6 = .ok (.iload 5, 2) := by decide +kernel
theorem dX10_isSure_8 : decode cX10_isSure 8 = .ok (.aload_n 0, 1) := by decide +kernel
theorem dX10_isSure_9 : decode cX10_isSure 9 = .ok (.getfield 68, 3) := by decide +kernel
theorem dX10_isSure_12 : decode cX10_isSure 12 = .ok (.if_icmp .ge 33, 3) := by decide +kernel
theorem dX10_isSure_15 : decode cX10_isSure 15 = .ok (.iload 4, 2) := by decide +kernel
theorem dX10_isSure_17 : decode cX10_isSure 17 = .ok (.ifCond .eq 28, 3) := by decide +kernel
theorem dX10_isSure_20 : decode cX10_isSure 20 = .ok (.aload_n 0, 1) := by decide +kernel
theorem dX10_isSure_21 : decode cX10_isSure 21 = .ok (.iload 5, 2) := by decide +kernel
theorem dX10_isSure_23 : decode cX10_isSure 23 = .ok (.iload_n 2, 1) := by decide +kernel
theorem dX10_isSure_24 : decode cX10_isSure 24 = .ok (.iload_n 3, 1) := by decide +kernel
theorem dX10_isSure_25 : decode cX10_isSure 25 = .ok (.invokevirtual 166, 3) := by decide +kernel
theorem dX10_isSure_28 : decode cX10_isSure 28 = .ok (.iload_n 1, 1) := by decide +kernel
theorem dX10_isSure_29 : decode cX10_isSure 29 = .ok (.if_icmp .ne 7, 3) := by decide +kernel
theorem dX10_isSure_32 : decode cX10_isSure 32 = .ok (.iconst 1, 1) := by decide +kernel
theorem dX10_isSure_33 : decode cX10_isSure 33 = .ok (.goto 4, 3) := by decide +kernel
theorem dX10_isSure_36 : decode cX10_isSure 36 = .ok (.iconst 0, 1) := by decide +kernel
theorem dX10_isSure_37 : decode cX10_isSure 37 = .ok (.istore 4, 2) := by decide +kernel
theorem dX10_isSure_39 : decode cX10_isSure 39 = .ok (.iinc 5 1, 3) := by decide +kernel
theorem dX10_isSure_42 : decode cX10_isSure 42 = .ok (.goto (-36), 3) := by decide +kernel
theorem dX10_isSure_45 : decode cX10_isSure 45 = .ok (.iload 4, 2) := by decide +kernel
theorem dX10_isSure_47 : decode cX10_isSure 47 = .ok (.ireturn, 1) := by decide +kernel
theorem dX10_sure_0 : decode cX10_sure 0 = .ok (.aload_n 0, 1) := by decide +kernel
theorem dX10_sure_1 : decode cX10_sure 1 = .ok (.iload_n 1, 1) := by decide +kernel
theorem dX10_sure_2 : decode cX10_sure 2 = .ok (.invokevirtual 169, 3) := by decide +kernel
theorem dX10_sure_5 : decode cX10_sure 5 = .ok (.istore_n 3, 1) := by decide +kernel
theorem dX10_sure_6 : decode cX10_sure 6 = .ok (.iload_n 3, 1) := by decide +kernel
theorem dX10_sure_7 : decode cX10_sure 7 = .ok (.bipush (-9), 2) := by decide +kernel
theorem dX10_sure_9 : decode cX10_sure 9 = .ok (.if_icmp .ne 6, 3) := by decide +kernel
theorem dX10_sure_12 : decode cX10_sure 12 = .ok (.bipush (-2), 2) := by decide +kernel
theorem dX10_sure_14 : decode cX10_sure 14 = .ok (.ireturn, 1) := by decide +kernel
theorem dX10_sure_15 : decode cX10_sure 15 = .ok (.iconst 0, 1) := by decide +kernel
theorem dX10_sure_16 : decode cX10_sure 16 = .ok (.istore 4, 2) := by decide +kernel
theorem dX10_sure_18 : decode cX10_sure 18 = .ok (.iload 4, 2) := by decide +kernel
theorem dX10_sure_20 : decode cX10_sure 20 = .ok (.iconst 4, 1) := by decide +kernel
theorem dX10_sure_21 : decode cX10_sure 21 = .ok (.if_icmp .ge 52, 3) := by decide +kernel
theorem dX10_sure_24 : decode cX10_sure 24 = .ok (.iconst 0, 1) := by decide +kernel
theorem dX10_sure_25 : decode cX10_sure 25 = .ok (.istore 5, 2) := by decide +kernel
theorem dX10_sure_27 : decode cX10_sure 27 = .ok (.iload 5, 2) := by decide +kernel
theorem dX10_sure_29 : decode cX10_sure 29 = .ok (.iload 4, 2) := by decide +kernel
theorem dX10_sure_31 : decode cX10_sure 31 = .ok (.invokestatic 159, 3) := by decide +kernel
theorem dX10_sure_34 : decode cX10_sure 34 = .ok (.if_icmp .ge 33, 3) := by decide +kernel
theorem dX10_sure_37 : decode cX10_sure 37 = .ok (.aload_n 0, 1) := by decide +kernel
theorem dX10_sure_38 : decode cX10_sure 38 = .ok (.iload_n 3, 1) := by decide +kernel
theorem dX10_sure_39 : decode cX10_sure 39 = .ok (.iload 4, 2) := by decide +kernel
theorem dX10_sure_41 : decode cX10_sure 41 = .ok (.iload 5, 2) := by decide +kernel
theorem dX10_sure_43 : decode cX10_sure 43 = .ok (.invokevirtual 181, 3) := by decide +kernel
theorem dX10_sure_46 : decode cX10_sure 46 = .ok (.ifCond .eq 15, 3) := by decide +kernel
theorem dX10_sure_49 : decode cX10_sure 49 = .ok (.iload_n 2, 1) := by decide +kernel
theorem dX10_sure_50 : decode cX10_sure 50 = .ok (.ifCond .eq 8, 3) := by decide +kernel
theorem dX10_sure_53 : decode cX10_sure 53 = .ok (.iload 5, 2) := by decide +kernel
theorem dX10_sure_55 : decode cX10_sure 55 = .ok (.goto 5, 3) := by decide +kernel
theorem dX10_sure_58 : decode cX10_sure 58 = .ok (.iload 4, 2) := by decide +kernel
theorem dX10_sure_60 : decode cX10_sure 60 = .ok (.ireturn, 1) := by decide +kernel
theorem dX10_sure_61 : decode cX10_sure 61 = .ok (.iinc 5 1, 3) := by decide +kernel
theorem dX10_sure_64 : decode cX10_sure 64 = .ok (.goto (-37), 3) := by decide +kernel
theorem dX10_sure_67 : decode cX10_sure 67 = .ok (.iinc 4 1, 3) := by decide +kernel
theorem dX10_sure_70 : decode cX10_sure 70 = .ok (.goto (-52), 3) := by decide +kernel
theorem dX10_sure_73 : decode cX10_sure 73 = .ok (.bipush (-9), 2) := by decide +kernel
theorem dX10_sure_75 : decode cX10_sure 75 = .ok (.ireturn, 1) := by decide +kernel
theorem dX10_needed_0 : decode cX10_needed 0 = .ok (.aload_n 0, 1) := by decide +kernel
theorem dX10_needed_1 : decode cX10_needed 1 = .ok (.iload_n 1, 1) := by decide +kernel
theorem dX10_needed_2 : decode cX10_needed 2 = .ok (.invokevirtual 169, 3) := by decide +kernel
theorem dX10_needed_5 : decode cX10_needed 5 = .ok (.istore_n 2, 1) := by decide +kernel
theorem dX10_needed_6 : decode cX10_needed 6 = .ok (.iload_n 2, 1) := by decide +kernel
theorem dX10_needed_7 : decode cX10_needed 7 = .ok (.bipush (-9), 2) := by decide +kernel
theorem dX10_needed_9 : decode cX10_needed 9 = .ok (.if_icmp .ne 6, 3) := by decide +kernel
theorem dX10_needed_12 : decode cX10_needed 12 = .ok (.bipush (-2), 2) := by decide +kernel
theorem dX10_needed_14 : decode cX10_needed 14 = .ok (.ireturn, 1) := by decide +kernel
theorem dX10_needed_15 : decode cX10_needed 15 = .ok (.bipush (-9), 2) := by decide +kernel
theorem dX10_needed_17 : decode cX10_needed 17 = .ok (.istore_n 3, 1) := by decide +kernel
theorem dX10_needed_18 : decode cX10_needed 18 = .ok (.iconst 0, 1) := by decide +kernel
theorem dX10_needed_19 : decode cX10_needed 19 = .ok (.istore 4, 2) := by decide +kernel
theorem dX10_needed_21 : decode cX10_needed 21 = .ok (.iload 4, 2) := by decide +kernel
theorem dX10_needed_23 : decode cX10_needed 23 = .ok (.aload_n 0, 1) := by decide +kernel
theorem dX10_needed_24 : decode cX10_needed 24 = .ok (.invokevirtual 172, 3) := by decide +kernel
theorem dX10_needed_27 : decode cX10_needed 27 = .ok (.if_icmp .gt 56, 3) := by decide +kernel
theorem dX10_needed_30 : decode cX10_needed 30 = .ok (.iload_n 3, 1) := by decide +kernel
theorem dX10_needed_31 : decode cX10_needed 31 = .ok (.bipush (-9), 2) := by decide +kernel
theorem dX10_needed_33 : decode cX10_needed 33 = .ok (.if_icmp .eq 15, 3) := by decide +kernel
theorem dX10_needed_36 : decode cX10_needed 36 = .ok (.iload 4, 2) := by decide +kernel
theorem dX10_needed_38 : decode cX10_needed 38 = .ok (.invokestatic 185, 3) := by decide +kernel
theorem dX10_needed_41 : decode cX10_needed 41 = .ok (.iload_n 3, 1) := by decide +kernel
theorem dX10_needed_42 : decode cX10_needed 42 = .ok (.invokestatic 185, 3) := by decide +kernel
theorem dX10_needed_45 : decode cX10_needed 45 = .ok (.if_icmp .ge 32, 3) := by decide +kernel
theorem dX10_needed_48 : decode cX10_needed 48 = .ok (.aload_n 0, 1) := by decide +kernel
theorem dX10_needed_49 : decode cX10_needed 49 = .ok (.iload_n 2, 1) := by decide +kernel
theorem dX10_needed_50 : decode cX10_needed 50 = .ok (.iload 4, 2) := by decide +kernel
theorem dX10_needed_52 : decode cX10_needed 52 = .ok (.invokevirtual 175, 3) := by decide +kernel
theorem dX10_needed_55 : decode cX10_needed 55 = .ok (.pop, 1) := by decide +kernel
theorem dX10_needed_56 : decode cX10_needed 56 = .ok (.aload_n 0, 1) := by decide +kernel
theorem dX10_needed_57 : decode cX10_needed 57 = .ok (.getfield 43, 3) := by decide +kernel
theorem dX10_needed_60 : decode cX10_needed 60 = .ok (.aload_n 0, 1) := by decide +kernel
theorem dX10_needed_61 : decode cX10_needed 61 = .ok (.getfield 117, 3) := by decide +kernel
theorem dX10_needed_64 : decode cX10_needed 64 = .ok (.iaload, 1) := by decide +kernel
theorem dX10_needed_65 : decode cX10_needed 65 = .ok (.bipush (-9), 2) := by decide +kernel
theorem dX10_needed_67 : decode cX10_needed 67 = .ok (.if_icmp .ne 7, 3) := by decide +kernel
theorem dX10_needed_70 : decode cX10_needed 70 = .ok (.iload_n 3, 1) := by decide +kernel
theorem dX10_needed_71 : decode cX10_needed 71 = .ok (.goto 5, 3) := by decide +kernel
theorem dX10_needed_74 : decode cX10_needed 74 = .ok (.iload 4, 2) := by decide +kernel
theorem dX10_needed_76 : decode cX10_needed 76 = .ok (.istore_n 3, 1) := by decide +kernel
theorem dX10_needed_77 : decode cX10_needed 77 = .ok (.iinc 4 1, 3) := by decide +kernel
theorem dX10_needed_80 : decode cX10_needed 80 = .ok (.goto (-59), 3) := by decide +kernel
theorem dX10_needed_83 : decode cX10_needed 83 = .ok (.iload_n 3, 1) := by decide +kernel
theorem dX10_needed_84 : decode cX10_needed 84 = .ok (.ireturn, 1) := by decide +kernel
theorem dX10_judge_0 : decode cX10_judge 0 = .ok (.iload_n 1, 1) := by decide +kernel
theorem dX10_judge_1 : decode cX10_judge 1 = .ok (.iload_n 2, 1) := by decide +kernel
theorem dX10_judge_2 : decode cX10_judge 2 = .ok (.iconst 1, 1) := by decide +kernel
theorem dX10_judge_3 : decode cX10_judge 3 = .ok (.bipush 6, 2) := by decide +kernel
theorem dX10_judge_5 : decode cX10_judge 5 = .ok (.invokestatic 162, 3) := by decide +kernel
theorem dX10_judge_8 : decode cX10_judge 8 = .ok (.ifCond .ne 6, 3) := by decide +kernel
theorem dX10_judge_11 : decode cX10_judge 11 = .ok (.bipush (-2), 2) := by decide +kernel
theorem dX10_judge_13 : decode cX10_judge 13 = .ok (.ireturn, 1) := by decide +kernel
theorem dX10_judge_14 : decode cX10_judge 14 = .ok (.aload_n 0, 1) := by decide +kernel
theorem dX10_judge_15 : decode cX10_judge 15 = .ok (.getfield 117, 3) := by decide +kernel
theorem dX10_judge_18 : decode cX10_judge 18 = .ok (.istore_n 3, 1) := by decide +kernel
theorem dX10_judge_19 : decode cX10_judge 19 = .ok (.iconst 0, 1) := by decide +kernel
theorem dX10_judge_20 : decode cX10_judge 20 = .ok (.istore 4, 2) := by decide +kernel
theorem dX10_judge_22 : decode cX10_judge 22 = .ok (.iload 4, 2) := by decide +kernel
theorem dX10_judge_24 : decode cX10_judge 24 = .ok (.iload_n 1, 1) := by decide +kernel
theorem dX10_judge_25 : decode cX10_judge 25 = .ok (.if_icmp .ge 70, 3) := by decide +kernel
theorem dX10_judge_28 : decode cX10_judge 28 = .ok (.iload_n 2, 1) := by decide +kernel
theorem dX10_judge_29 : decode cX10_judge 29 = .ok (.iload_n 1, 1) := by decide +kernel
theorem dX10_judge_30 : decode cX10_judge 30 = .ok (.iconst 1, 1) := by decide +kernel
theorem dX10_judge_31 : decode cX10_judge 31 = .ok (.isub, 1) := by decide +kernel
theorem dX10_judge_32 : decode cX10_judge 32 = .ok (.iload 4, 2) := by decide +kernel
theorem dX10_judge_34 : decode cX10_judge 34 = .ok (.isub, 1) := by decide +kernel
theorem dX10_judge_35 : decode cX10_judge 35 = .ok (.invokestatic 159, 3) := by decide +kernel
theorem dX10_judge_38 : decode cX10_judge 38 = .ok (.idiv, 1) := by decide +kernel
theorem dX10_judge_39 : decode cX10_judge 39 = .ok (.bipush 10, 2) := by decide +kernel
theorem dX10_judge_41 : decode cX10_judge 41 = .ok (.irem, 1) := by decide +kernel
theorem dX10_judge_42 : decode cX10_judge 42 = .ok (.iconst 1, 1) := by decide +kernel
theorem dX10_judge_43 : decode cX10_judge 43 = .ok (.isub, 1) := by decide +kernel
theorem dX10_judge_44 : decode cX10_judge 44 = .ok (.istore 5, 2) := by decide +kernel
theorem dX10_judge_46 : decode cX10_judge 46 = .ok (.aload_n 0, 1) := by decide +kernel
theorem dX10_judge_47 : decode cX10_judge 47 = .ok (.iload 5, 2) := by decide +kernel
theorem dX10_judge_49 : decode cX10_judge 49 = .ok (.invokevirtual 147, 3) := by decide +kernel
theorem dX10_judge_52 : decode cX10_judge 52 = .ok (.ifCond .eq 20, 3) := by decide +kernel
theorem dX10_judge_55 : decode cX10_judge 55 = .ok (.aload_n 0, 1) := by decide +kernel
theorem dX10_judge_56 : decode cX10_judge 56 = .ok (.getfield 25, 3) := by decide +kernel
theorem dX10_judge_59 : decode cX10_judge 59 = .ok (.sipush 256, 3) := by decide +kernel
theorem dX10_judge_62 : decode cX10_judge 62 = .ok (.iload 5, 2) := by decide +kernel
theorem dX10_judge_64 : decode cX10_judge 64 = .ok (.imul, 1) := by decide +kernel
theorem dX10_judge_65 : decode cX10_judge 65 = .ok (.iload_n 3, 1) := by decide +kernel
theorem dX10_judge_66 : decode cX10_judge 66 = .ok (.iadd, 1) := by decide +kernel
theorem dX10_judge_67 : decode cX10_judge 67 = .ok (.iaload, 1) := by decide +kernel
theorem dX10_judge_68 : decode cX10_judge 68 = .ok (.iload_n 3, 1) := by decide +kernel
theorem dX10_judge_69 : decode cX10_judge 69 = .ok (.if_icmp .ne 6, 3) := by decide +kernel
theorem dX10_judge_72 : decode cX10_judge 72 = .ok (.iload 4, 2) := by decide +kernel
theorem dX10_judge_74 : decode cX10_judge 74 = .ok (.ireturn, 1) := by decide +kernel
theorem dX10_judge_75 : decode cX10_judge 75 = .ok (.aload_n 0, 1) := by decide +kernel
theorem dX10_judge_76 : decode cX10_judge 76 = .ok (.getfield 25, 3) := by decide +kernel
theorem dX10_judge_79 : decode cX10_judge 79 = .ok (.sipush 256, 3) := by decide +kernel
theorem dX10_judge_82 : decode cX10_judge 82 = .ok (.iload 5, 2) := by decide +kernel
theorem dX10_judge_84 : decode cX10_judge 84 = .ok (.imul, 1) := by decide +kernel
theorem dX10_judge_85 : decode cX10_judge 85 = .ok (.iload_n 3, 1) := by decide +kernel
theorem dX10_judge_86 : decode cX10_judge 86 = .ok (.iadd, 1) := by decide +kernel
theorem dX10_judge_87 : decode cX10_judge 87 = .ok (.iaload, 1) := by decide +kernel
theorem dX10_judge_88 : decode cX10_judge 88 = .ok (.istore_n 3, 1) := by decide +kernel
theorem dX10_judge_89 : decode cX10_judge 89 = .ok (.iinc 4 1, 3) := by decide +kernel
theorem dX10_judge_92 : decode cX10_judge 92 = .ok (.goto (-70), 3) := by decide +kernel
theorem dX10_judge_95 : decode cX10_judge 95 = .ok (.bipush (-9), 2) := by decide +kernel
theorem dX10_judge_97 : decode cX10_judge 97 = .ok (.ireturn, 1) := by decide +kernel
theorem dX10_see_0 : decode cX10_see 0 = .ok (.iload_n 1, 1) := by decide +kernel
theorem dX10_see_1 : decode cX10_see 1 = .ok (.iload_n 2, 1) := by decide +kernel
theorem dX10_see_2 : decode cX10_see 2 = .ok (.iconst 0, 1) := by decide +kernel
theorem dX10_see_3 : decode cX10_see 3 = .ok (.iconst 3, 1) := by decide +kernel
theorem dX10_see_4 : decode cX10_see 4 = .ok (.invokestatic 162, 3) := by decide +kernel
theorem dX10_see_7 : decode cX10_see 7 = .ok (.ifCond .eq 15, 3) := by decide +kernel
theorem dX10_see_10 : decode cX10_see 10 = .ok (.iload_n 3, 1) := by decide +kernel
theorem dX10_see_11 : decode cX10_see 11 = .ok (.i2l, 1) := by decide +kernel
theorem dX10_see_12 : decode cX10_see 12 = .ok (.lconst 0, 1) := by decide +kernel
theorem dX10_see_13 : decode cX10_see 13 = .ok (.ldc2_w 188, 3) := by decide +kernel
theorem dX10_see_16 : decode cX10_see 16 = .ok (.invokestatic 74, 3) := by decide +kernel
theorem dX10_see_19 : decode cX10_see 19 = .ok (.ifCond .ne 6, 3) := by decide +kernel
theorem dX10_see_22 : decode cX10_see 22 = .ok (.bipush (-2), 2) := by decide +kernel
theorem dX10_see_24 : decode cX10_see 24 = .ok (.ireturn, 1) := by decide +kernel
theorem dX10_see_25 : decode cX10_see 25 = .ok (.aload_n 0, 1) := by decide +kernel
theorem dX10_see_26 : decode cX10_see 26 = .ok (.getfield 190, 3) := by decide +kernel
theorem dX10_see_29 : decode cX10_see 29 = .ok (.bipush 6, 2) := by decide +kernel
theorem dX10_see_31 : decode cX10_see 31 = .ok (.if_icmp .ne 6, 3) := by decide +kernel
theorem dX10_see_34 : decode cX10_see 34 = .ok (.bipush (-4), 2) := by decide +kernel
theorem dX10_see_36 : decode cX10_see 36 = .ok (.ireturn, 1) := by decide +kernel
theorem dX10_see_37 : decode cX10_see 37 = .ok (.aload_n 0, 1) := by decide +kernel
theorem dX10_see_38 : decode cX10_see 38 = .ok (.getfield 46, 3) := by decide +kernel
theorem dX10_see_41 : decode cX10_see 41 = .ok (.aload_n 0, 1) := by decide +kernel
theorem dX10_see_42 : decode cX10_see 42 = .ok (.getfield 190, 3) := by decide +kernel
theorem dX10_see_45 : decode cX10_see 45 = .ok (.iload_n 1, 1) := by decide +kernel
theorem dX10_see_46 : decode cX10_see 46 = .ok (.iastore, 1) := by decide +kernel
theorem dX10_see_47 : decode cX10_see 47 = .ok (.aload_n 0, 1) := by decide +kernel
theorem dX10_see_48 : decode cX10_see 48 = .ok (.getfield 49, 3) := by decide +kernel
theorem dX10_see_51 : decode cX10_see 51 = .ok (.aload_n 0, 1) := by decide +kernel
theorem dX10_see_52 : decode cX10_see 52 = .ok (.getfield 190, 3) := by decide +kernel
theorem dX10_see_55 : decode cX10_see 55 = .ok (.iload_n 2, 1) := by decide +kernel
theorem dX10_see_56 : decode cX10_see 56 = .ok (.iastore, 1) := by decide +kernel
theorem dX10_see_57 : decode cX10_see 57 = .ok (.aload_n 0, 1) := by decide +kernel
theorem dX10_see_58 : decode cX10_see 58 = .ok (.getfield 52, 3) := by decide +kernel
theorem dX10_see_61 : decode cX10_see 61 = .ok (.aload_n 0, 1) := by decide +kernel
theorem dX10_see_62 : decode cX10_see 62 = .ok (.getfield 190, 3) := by decide +kernel
theorem dX10_see_65 : decode cX10_see 65 = .ok (.iload_n 3, 1) := by decide +kernel
theorem dX10_see_66 : decode cX10_see 66 = .ok (.iastore, 1) := by decide +kernel
theorem dX10_see_67 : decode cX10_see 67 = .ok (.aload_n 0, 1) := by decide +kernel
theorem dX10_see_68 : decode cX10_see 68 = .ok (.dup, 1) := by decide +kernel
theorem dX10_see_69 : decode cX10_see 69 = .ok (.getfield 190, 3) := by decide +kernel
theorem dX10_see_72 : decode cX10_see 72 = .ok (.iconst 1, 1) := by decide +kernel
theorem dX10_see_73 : decode cX10_see 73 = .ok (.iadd, 1) := by decide +kernel
theorem dX10_see_74 : decode cX10_see 74 = .ok (.putfield 190, 3) := by decide +kernel
theorem dX10_see_77 : decode cX10_see 77 = .ok (.aload_n 0, 1) := by decide +kernel
theorem dX10_see_78 : decode cX10_see 78 = .ok (.getfield 190, 3) := by decide +kernel
theorem dX10_see_81 : decode cX10_see 81 = .ok (.ireturn, 1) := by decide +kernel
theorem dX10_unsee_0 : decode cX10_unsee 0 = .ok (.aload_n 0, 1) := by decide +kernel
theorem dX10_unsee_1 : decode cX10_unsee 1 = .ok (.getfield 190, 3) := by decide +kernel
theorem dX10_unsee_4 : decode cX10_unsee 4 = .ok (.istore_n 1, 1) := by decide +kernel
theorem dX10_unsee_5 : decode cX10_unsee 5 = .ok (.aload_n 0, 1) := by decide +kernel
theorem dX10_unsee_6 : decode cX10_unsee 6 = .ok (.iconst 0, 1) := by decide +kernel
theorem dX10_unsee_7 : decode cX10_unsee 7 = .ok (.putfield 190, 3) := by decide +kernel
theorem dX10_unsee_10 : decode cX10_unsee 10 = .ok (.iload_n 1, 1) := by decide +kernel
theorem dX10_unsee_11 : decode cX10_unsee 11 = .ok (.ireturn, 1) := by decide +kernel
theorem dX10_mayBe_0 : decode cX10_mayBe 0 = .ok (.iconst 1, 1) := by decide +kernel
theorem dX10_mayBe_1 : decode cX10_mayBe 1 = .ok (.istore_n 2, 1) := by decide +kernel
theorem dX10_mayBe_2 : decode cX10_mayBe 2 = .ok (.iconst 0, 1) := by decide +kernel
theorem dX10_mayBe_3 : decode cX10_mayBe 3 = .ok (.istore_n 3, 1) := by decide +kernel
theorem dX10_mayBe_4 : decode cX10_mayBe 4 = .ok (.iload_n 3, 1) := by decide +kernel
theorem dX10_mayBe_5 : decode cX10_mayBe 5 = .ok (.aload_n 0, 1) := by decide +kernel
theorem dX10_mayBe_6 : decode cX10_mayBe 6 = .ok (.getfield 190, 3) := by decide +kernel
theorem dX10_mayBe_9 : decode cX10_mayBe 9 = .ok (.if_icmp .ge 87, 3) := by decide +kernel
theorem dX10_mayBe_12 : decode cX10_mayBe 12 = .ok (.aload_n 0, 1) := by decide +kernel
theorem dX10_mayBe_13 : decode cX10_mayBe 13 = .ok (.iload_n 1, 1) := by decide +kernel
theorem dX10_mayBe_14 : decode cX10_mayBe 14 = .ok (.aload_n 0, 1) := by decide +kernel
theorem dX10_mayBe_15 : decode cX10_mayBe 15 = .ok (.getfield 46, 3) := by decide +kernel
theorem dX10_mayBe_18 : decode cX10_mayBe 18 = .ok (.iload_n 3, 1) := by decide +kernel
theorem dX10_mayBe_19 : decode cX10_mayBe 19 = .ok (.iaload, 1) := by decide +kernel
theorem dX10_mayBe_20 : decode cX10_mayBe 20 = .ok (.aload_n 0, 1) := by decide +kernel
theorem dX10_mayBe_21 : decode cX10_mayBe 21 = .ok (.getfield 49, 3) := by decide +kernel
theorem dX10_mayBe_24 : decode cX10_mayBe 24 = .ok (.iload_n 3, 1) := by decide +kernel
theorem dX10_mayBe_25 : decode cX10_mayBe 25 = .ok (.iaload, 1) := by decide +kernel
theorem dX10_mayBe_26 : decode cX10_mayBe 26 = .ok (.invokevirtual 166, 3) := by decide +kernel
theorem dX10_mayBe_29 : decode cX10_mayBe 29 = .ok (.istore 4, 2) := by decide +kernel
theorem dX10_mayBe_31 : decode cX10_mayBe 31 = .ok (.iload 4, 2) := by decide +kernel
theorem dX10_mayBe_33 : decode cX10_mayBe 33 = .ok (.bipush (-9), 2) := by decide +kernel
theorem dX10_mayBe_35 : decode cX10_mayBe 35 = .ok (.if_icmp .eq 22, 3) := by decide +kernel
theorem dX10_mayBe_38 : decode cX10_mayBe 38 = .ok (.aload_n 0, 1) := by decide +kernel
theorem dX10_mayBe_39 : decode cX10_mayBe 39 = .ok (.getfield 52, 3) := by decide +kernel
theorem dX10_mayBe_42 : decode cX10_mayBe 42 = .ok (.iload_n 3, 1) := by decide +kernel
theorem dX10_mayBe_43 : decode cX10_mayBe 43 = .ok (.iaload, 1) := by decide +kernel
theorem dX10_mayBe_44 : decode cX10_mayBe 44 = .ok (.iconst 1, 1) := by decide +kernel
theorem dX10_mayBe_45 : decode cX10_mayBe 45 = .ok (.aload_n 0, 1) := by decide +kernel
theorem dX10_mayBe_46 : decode cX10_mayBe 46 = .ok (.getfield 111, 3) := by decide +kernel
theorem dX10_mayBe_49 : decode cX10_mayBe 49 = .ok (.ishl, 1) := by decide +kernel
theorem dX10_mayBe_50 : decode cX10_mayBe 50 = .ok (.if_icmp .ge 7, 3) := by decide +kernel
theorem dX10_mayBe_53 : decode cX10_mayBe 53 = .ok (.iconst 1, 1) := by decide +kernel
theorem dX10_mayBe_54 : decode cX10_mayBe 54 = .ok (.goto 4, 3) := by decide +kernel
theorem dX10_mayBe_57 : decode cX10_mayBe 57 = .ok (.iconst 0, 1) := by decide +kernel
theorem dX10_mayBe_58 : decode cX10_mayBe 58 = .ok (.istore 5, 2) := by decide +kernel
theorem dX10_mayBe_60 : decode cX10_mayBe 60 = .ok (.iload_n 2, 1) := by decide +kernel
theorem dX10_mayBe_61 : decode cX10_mayBe 61 = .ok (.ifCond .eq 27, 3) := by decide +kernel
theorem dX10_mayBe_64 : decode cX10_mayBe 64 = .ok (.iload 5, 2) := by decide +kernel
theorem dX10_mayBe_66 : decode cX10_mayBe 66 = .ok (.ifCond .eq 18, 3) := by decide +kernel
theorem dX10_mayBe_69 : decode cX10_mayBe 69 = .ok (.aload_n 0, 1) := by decide +kernel
theorem dX10_mayBe_70 : decode cX10_mayBe 70 = .ok (.iload 4, 2) := by decide +kernel
theorem dX10_mayBe_72 : decode cX10_mayBe 72 = .ok (.invokevirtual 193, 3) := by decide +kernel
theorem dX10_mayBe_75 : decode cX10_mayBe 75 = .ok (.aload_n 0, 1) := by decide +kernel
theorem dX10_mayBe_76 : decode cX10_mayBe 76 = .ok (.getfield 52, 3) := by decide +kernel
theorem dX10_mayBe_79 : decode cX10_mayBe 79 = .ok (.iload_n 3, 1) := by decide +kernel
theorem dX10_mayBe_80 : decode cX10_mayBe 80 = .ok (.iaload, 1) := by decide +kernel
theorem dX10_mayBe_81 : decode cX10_mayBe 81 = .ok (.if_icmp .ne 7, 3) := by decide +kernel
theorem dX10_mayBe_84 : decode cX10_mayBe 84 = .ok (.iconst 1, 1) := by decide +kernel
theorem dX10_mayBe_85 : decode cX10_mayBe 85 = .ok (.goto 4, 3) := by decide +kernel
theorem dX10_mayBe_88 : decode cX10_mayBe 88 = .ok (.iconst 0, 1) := by decide +kernel
theorem dX10_mayBe_89 : decode cX10_mayBe 89 = .ok (.istore_n 2, 1) := by decide +kernel
theorem dX10_mayBe_90 : decode cX10_mayBe 90 = .ok (.iinc 3 1, 3) := by decide +kernel
theorem dX10_mayBe_93 : decode cX10_mayBe 93 = .ok (.goto (-89), 3) := by decide +kernel
theorem dX10_mayBe_96 : decode cX10_mayBe 96 = .ok (.iload_n 2, 1) := by decide +kernel
theorem dX10_mayBe_97 : decode cX10_mayBe 97 = .ok (.ireturn, 1) := by decide +kernel
theorem dX10_may_0 : decode cX10_may 0 = .ok (.iload_n 1, 1) := by decide +kernel
theorem dX10_may_1 : decode cX10_may 1 = .ok (.i2l, 1) := by decide +kernel
theorem dX10_may_2 : decode cX10_may 2 = .ok (.lconst 0, 1) := by decide +kernel
theorem dX10_may_3 : decode cX10_may 3 = .ok (.ldc2_w 196, 3) := by decide +kernel
theorem dX10_may_6 : decode cX10_may 6 = .ok (.invokestatic 74, 3) := by decide +kernel
theorem dX10_may_9 : decode cX10_may 9 = .ok (.ifCond .ne 6, 3) := by decide +kernel
theorem dX10_may_12 : decode cX10_may 12 = .ok (.bipush (-2), 2) := by decide +kernel
theorem dX10_may_14 : decode cX10_may 14 = .ok (.ireturn, 1) := by decide +kernel
theorem dX10_may_15 : decode cX10_may 15 = .ok (.iconst 0, 1) := by decide +kernel
theorem dX10_may_16 : decode cX10_may 16 = .ok (.istore_n 2, 1) := by decide +kernel
theorem dX10_may_17 : decode cX10_may 17 = .ok (.bipush (-9), 2) := by decide +kernel
theorem dX10_may_19 : decode cX10_may 19 = .ok (.istore_n 3, 1) := by decide +kernel
theorem dX10_may_20 : decode cX10_may 20 = .ok (.iconst 1, 1) := by decide +kernel
theorem dX10_may_21 : decode cX10_may 21 = .ok (.aload_n 0, 1) := by decide +kernel
theorem dX10_may_22 : decode cX10_may 22 = .ok (.getfield 111, 3) := by decide +kernel
theorem dX10_may_25 : decode cX10_may 25 = .ok (.ishl, 1) := by decide +kernel
theorem dX10_may_26 : decode cX10_may 26 = .ok (.iconst 1, 1) := by decide +kernel
theorem dX10_may_27 : decode cX10_may 27 = .ok (.isub, 1) := by decide +kernel
theorem dX10_may_28 : decode cX10_may 28 = .ok (.istore 4, 2) := by decide +kernel
theorem dX10_may_30 : decode cX10_may 30 = .ok (.iconst 0, 1) := by decide +kernel
theorem dX10_may_31 : decode cX10_may 31 = .ok (.istore 5, 2) := by decide +kernel
theorem dX10_may_33 : decode cX10_may 33 = .ok (.iload 5, 2) := by decide +kernel
theorem dX10_may_35 : decode cX10_may 35 = .ok (.aload_n 0, 1) := by decide +kernel
theorem dX10_may_36 : decode cX10_may 36 = .ok (.getfield 68, 3) := by decide +kernel
theorem dX10_may_39 : decode cX10_may 39 = .ok (.if_icmp .ge 83, 3) := by decide +kernel
theorem dX10_may_42 : decode cX10_may 42 = .ok (.aload_n 0, 1) := by decide +kernel
theorem dX10_may_43 : decode cX10_may 43 = .ok (.iload 5, 2) := by decide +kernel
theorem dX10_may_45 : decode cX10_may 45 = .ok (.invokevirtual 198, 3) := by decide +kernel
theorem dX10_may_48 : decode cX10_may 48 = .ok (.ifCond .eq 68, 3) := by decide +kernel
theorem dX10_may_51 : decode cX10_may 51 = .ok (.iload_n 2, 1) := by decide +kernel
theorem dX10_may_52 : decode cX10_may 52 = .ok (.ifCond .ne 8, 3) := by decide +kernel
theorem dX10_may_55 : decode cX10_may 55 = .ok (.iload 5, 2) := by decide +kernel
theorem dX10_may_57 : decode cX10_may 57 = .ok (.goto 4, 3) := by decide +kernel
theorem dX10_may_60 : decode cX10_may 60 = .ok (.iload_n 3, 1) := by decide +kernel
theorem dX10_may_61 : decode cX10_may 61 = .ok (.istore_n 3, 1) := by decide +kernel
theorem dX10_may_62 : decode cX10_may 62 = .ok (.iinc 2 1, 3) := by decide +kernel
theorem dX10_may_65 : decode cX10_may 65 = .ok (.iconst 0, 1) := by decide +kernel
theorem dX10_may_66 : decode cX10_may 66 = .ok (.istore 6, 2) := by decide +kernel
theorem dX10_may_68 : decode cX10_may 68 = .ok (.iload 6, 2) := by decide +kernel
theorem dX10_may_70 : decode cX10_may 70 = .ok (.aload_n 0, 1) := by decide +kernel
theorem dX10_may_71 : decode cX10_may 71 = .ok (.getfield 111, 3) := by decide +kernel
theorem dX10_may_74 : decode cX10_may 74 = .ok (.if_icmp .ge 42, 3) := by decide +kernel
theorem dX10_may_77 : decode cX10_may 77 = .ok (.iload 4, 2) := by decide +kernel
theorem dX10_may_79 : decode cX10_may 79 = .ok (.aload_n 0, 1) := by decide +kernel
theorem dX10_may_80 : decode cX10_may 80 = .ok (.iload 5, 2) := by decide +kernel
theorem dX10_may_82 : decode cX10_may 82 = .ok (.iload 6, 2) := by decide +kernel
theorem dX10_may_84 : decode cX10_may 84 = .ok (.invokevirtual 133, 3) := by decide +kernel
theorem dX10_may_87 : decode cX10_may 87 = .ok (.aload_n 0, 1) := by decide +kernel
theorem dX10_may_88 : decode cX10_may 88 = .ok (.iload_n 3, 1) := by decide +kernel
theorem dX10_may_89 : decode cX10_may 89 = .ok (.iload 6, 2) := by decide +kernel
theorem dX10_may_91 : decode cX10_may 91 = .ok (.invokevirtual 133, 3) := by decide +kernel
theorem dX10_may_94 : decode cX10_may 94 = .ok (.if_icmp .ne 7, 3) := by decide +kernel
theorem dX10_may_97 : decode cX10_may 97 = .ok (.iconst (-1), 1) := by decide +kernel
theorem dX10_may_98 : decode cX10_may 98 = .ok (.goto 9, 3) := by decide +kernel
theorem dX10_may_101 : decode cX10_may 101 = .ok (.iconst 1, 1) := by decide +kernel
theorem dX10_may_102 : decode cX10_may 102 = .ok (.iload 6, 2) := by decide +kernel
theorem dX10_may_104 : decode cX10_may 104 = .ok (.ishl, 1) := by decide +kernel
theorem dX10_may_105 : decode cX10_may 105 = .ok (.iconst (-1), 1) := by decide +kernel
theorem dX10_may_106 : decode cX10_may 106 = .ok (.ixor, 1) := by decide +kernel
theorem dX10_may_107 : decode cX10_may 107 = .ok (.iand, 1) := by decide +kernel
theorem dX10_may_108 : decode cX10_may 108 = .ok (.istore 4, 2) := by decide +kernel
theorem dX10_may_110 : decode cX10_may 110 = .ok (.iinc 6 1, 3) := by decide +kernel
theorem dX10_may_113 : decode cX10_may 113 = .ok (.goto (-45), 3) := by decide +kernel
theorem dX10_may_116 : decode cX10_may 116 = .ok (.iinc 5 1, 3) := by decide +kernel
theorem dX10_may_119 : decode cX10_may 119 = .ok (.goto (-86), 3) := by decide +kernel
theorem dX10_may_122 : decode cX10_may 122 = .ok (.iload_n 1, 1) := by decide +kernel
theorem dX10_may_123 : decode cX10_may 123 = .ok (.ifCond .ne 7, 3) := by decide +kernel
theorem dX10_may_126 : decode cX10_may 126 = .ok (.iload_n 2, 1) := by decide +kernel
theorem dX10_may_127 : decode cX10_may 127 = .ok (.goto 27, 3) := by decide +kernel
theorem dX10_may_130 : decode cX10_may 130 = .ok (.iload_n 2, 1) := by decide +kernel
theorem dX10_may_131 : decode cX10_may 131 = .ok (.ifCond .ne 8, 3) := by decide +kernel
theorem dX10_may_134 : decode cX10_may 134 = .ok (.bipush (-9), 2) := by decide +kernel
theorem dX10_may_136 : decode cX10_may 136 = .ok (.goto 18, 3) := by decide +kernel
theorem dX10_may_139 : decode cX10_may 139 = .ok (.iload_n 1, 1) := by decide +kernel
theorem dX10_may_140 : decode cX10_may 140 = .ok (.iconst 1, 1) := by decide +kernel
theorem dX10_may_141 : decode cX10_may 141 = .ok (.if_icmp .ne 11, 3) := by decide +kernel
theorem dX10_may_144 : decode cX10_may 144 = .ok (.aload_n 0, 1) := by decide +kernel
theorem dX10_may_145 : decode cX10_may 145 = .ok (.iload_n 3, 1) := by decide +kernel
theorem dX10_may_146 : decode cX10_may 146 = .ok (.invokevirtual 156, 3) := by decide +kernel
theorem dX10_may_149 : decode cX10_may 149 = .ok (.goto 5, 3) := by decide +kernel
theorem dX10_may_152 : decode cX10_may 152 = .ok (.iload 4, 2) := by decide +kernel
theorem dX10_may_154 : decode cX10_may 154 = .ok (.ireturn, 1) := by decide +kernel
theorem dX10_greatest_0 : decode cX10_greatest 0 = .ok (.iconst 0, 1) := by decide +kernel
theorem dX10_greatest_1 : decode cX10_greatest 1 = .ok (.istore_n 2, 1) := by decide +kernel
theorem dX10_greatest_2 : decode cX10_greatest 2 = .ok (.iload_n 2, 1) := by decide +kernel
theorem dX10_greatest_3 : decode cX10_greatest 3 = .ok (.bipush 16, 2) := by decide +kernel
theorem dX10_greatest_5 : decode cX10_greatest 5 = .ok (.if_icmp .ge 16, 3) := by decide +kernel
theorem dX10_greatest_8 : decode cX10_greatest 8 = .ok (.aload_n 0, 1) := by decide +kernel
theorem dX10_greatest_9 : decode cX10_greatest 9 = .ok (.getfield 55, 3) := by decide +kernel
theorem dX10_greatest_12 : decode cX10_greatest 12 = .ok (.iload_n 2, 1) := by decide +kernel
theorem dX10_greatest_13 : decode cX10_greatest 13 = .ok (.iconst 0, 1) := by decide +kernel
theorem dX10_greatest_14 : decode cX10_greatest 14 = .ok (.iastore, 1) := by decide +kernel
theorem dX10_greatest_15 : decode cX10_greatest 15 = .ok (.iinc 2 1, 3) := by decide +kernel
theorem dX10_greatest_18 : decode cX10_greatest 18 = .ok (.goto (-16), 3) := by decide +kernel
theorem dX10_greatest_21 : decode cX10_greatest 21 = .ok (.bipush (-9), 2) := by decide +kernel
theorem dX10_greatest_23 : decode cX10_greatest 23 = .ok (.istore_n 2, 1) := by decide +kernel
theorem dX10_greatest_24 : decode cX10_greatest 24 = .ok (.iconst 0, 1) := by decide +kernel
theorem dX10_greatest_25 : decode cX10_greatest 25 = .ok (.istore_n 3, 1) := by decide +kernel
theorem dX10_greatest_26 : decode cX10_greatest 26 = .ok (.iload_n 3, 1) := by decide +kernel
theorem dX10_greatest_27 : decode cX10_greatest 27 = .ok (.aload_n 0, 1) := by decide +kernel
theorem dX10_greatest_28 : decode cX10_greatest 28 = .ok (.getfield 68, 3) := by decide +kernel
theorem dX10_greatest_31 : decode cX10_greatest 31 = .ok (.if_icmp .ge 69, 3) := by decide +kernel
theorem dX10_greatest_34 : decode cX10_greatest 34 = .ok (.aload_n 0, 1) := by decide +kernel
theorem dX10_greatest_35 : decode cX10_greatest 35 = .ok (.iload_n 3, 1) := by decide +kernel
theorem dX10_greatest_36 : decode cX10_greatest 36 = .ok (.invokevirtual 198, 3) := by decide +kernel
theorem dX10_greatest_39 : decode cX10_greatest 39 = .ok (.ifCond .eq 55, 3) := by decide +kernel
theorem dX10_greatest_42 : decode cX10_greatest 42 = .ok (.aload_n 0, 1) := by decide +kernel
theorem dX10_greatest_43 : decode cX10_greatest 43 = .ok (.aload_n 0, 1) := by decide +kernel
theorem dX10_greatest_44 : decode cX10_greatest 44 = .ok (.getfield 25, 3) := by decide +kernel
theorem dX10_greatest_47 : decode cX10_greatest 47 = .ok (.sipush 256, 3) := by decide +kernel
theorem dX10_greatest_50 : decode cX10_greatest 50 = .ok (.iload_n 1, 1) := by decide +kernel
theorem dX10_greatest_51 : decode cX10_greatest 51 = .ok (.imul, 1) := by decide +kernel
theorem dX10_greatest_52 : decode cX10_greatest 52 = .ok (.iload_n 3, 1) := by decide +kernel
theorem dX10_greatest_53 : decode cX10_greatest 53 = .ok (.iadd, 1) := by decide +kernel
theorem dX10_greatest_54 : decode cX10_greatest 54 = .ok (.iaload, 1) := by decide +kernel
theorem dX10_greatest_55 : decode cX10_greatest 55 = .ok (.invokevirtual 193, 3) := by decide +kernel
theorem dX10_greatest_58 : decode cX10_greatest 58 = .ok (.istore 4, 2) := by decide +kernel
theorem dX10_greatest_60 : decode cX10_greatest 60 = .ok (.aload_n 0, 1) := by decide +kernel
theorem dX10_greatest_61 : decode cX10_greatest 61 = .ok (.getfield 55, 3) := by decide +kernel
theorem dX10_greatest_64 : decode cX10_greatest 64 = .ok (.iload 4, 2) := by decide +kernel
theorem dX10_greatest_66 : decode cX10_greatest 66 = .ok (.dup2, 1) := by decide +kernel
theorem dX10_greatest_67 : decode cX10_greatest 67 = .ok (.iaload, 1) := by decide +kernel
theorem dX10_greatest_68 : decode cX10_greatest 68 = .ok (.iconst 1, 1) := by decide +kernel
theorem dX10_greatest_69 : decode cX10_greatest 69 = .ok (.iadd, 1) := by decide +kernel
theorem dX10_greatest_70 : decode cX10_greatest 70 = .ok (.iastore, 1) := by decide +kernel
theorem dX10_greatest_71 : decode cX10_greatest 71 = .ok (.aload_n 0, 1) := by decide +kernel
theorem dX10_greatest_72 : decode cX10_greatest 72 = .ok (.getfield 55, 3) := by decide +kernel
theorem dX10_greatest_75 : decode cX10_greatest 75 = .ok (.iload 4, 2) := by decide +kernel
theorem dX10_greatest_77 : decode cX10_greatest 77 = .ok (.iaload, 1) := by decide +kernel
theorem dX10_greatest_78 : decode cX10_greatest 78 = .ok (.iload_n 2, 1) := by decide +kernel
theorem dX10_greatest_79 : decode cX10_greatest 79 = .ok (.if_icmp .le 13, 3) := by decide +kernel
theorem dX10_greatest_82 : decode cX10_greatest 82 = .ok (.aload_n 0, 1) := by decide +kernel
theorem dX10_greatest_83 : decode cX10_greatest 83 = .ok (.getfield 55, 3) := by decide +kernel
theorem dX10_greatest_86 : decode cX10_greatest 86 = .ok (.iload 4, 2) := by decide +kernel
theorem dX10_greatest_88 : decode cX10_greatest 88 = .ok (.iaload, 1) := by decide +kernel
theorem dX10_greatest_89 : decode cX10_greatest 89 = .ok (.goto 4, 3) := by decide +kernel
theorem dX10_greatest_92 : decode cX10_greatest 92 = .ok (.iload_n 2, 1) := by decide +kernel
theorem dX10_greatest_93 : decode cX10_greatest 93 = .ok (.istore_n 2, 1) := by decide +kernel
theorem dX10_greatest_94 : decode cX10_greatest 94 = .ok (.iinc 3 1, 3) := by decide +kernel
theorem dX10_greatest_97 : decode cX10_greatest 97 = .ok (.goto (-71), 3) := by decide +kernel
theorem dX10_greatest_100 : decode cX10_greatest 100 = .ok (.iload_n 2, 1) := by decide +kernel
theorem dX10_greatest_101 : decode cX10_greatest 101 = .ok (.ireturn, 1) := by decide +kernel
theorem dX10_tells_0 : decode cX10_tells 0 = .ok (.bipush (-9), 2) := by decide +kernel
theorem dX10_tells_2 : decode cX10_tells 2 = .ok (.istore_n 2, 1) := by decide +kernel
theorem dX10_tells_3 : decode cX10_tells 3 = .ok (.bipush (-9), 2) := by decide +kernel
theorem dX10_tells_5 : decode cX10_tells 5 = .ok (.istore_n 3, 1) := by decide +kernel
theorem dX10_tells_6 : decode cX10_tells 6 = .ok (.iconst 0, 1) := by decide +kernel
theorem dX10_tells_7 : decode cX10_tells 7 = .ok (.istore 4, 2) := by decide +kernel
theorem dX10_tells_9 : decode cX10_tells 9 = .ok (.iload 4, 2) := by decide +kernel
theorem dX10_tells_11 : decode cX10_tells 11 = .ok (.aload_n 0, 1) := by decide +kernel
theorem dX10_tells_12 : decode cX10_tells 12 = .ok (.getfield 114, 3) := by decide +kernel
theorem dX10_tells_15 : decode cX10_tells 15 = .ok (.if_icmp .ge 67, 3) := by decide +kernel
theorem dX10_tells_18 : decode cX10_tells 18 = .ok (.aload_n 0, 1) := by decide +kernel
theorem dX10_tells_19 : decode cX10_tells 19 = .ok (.iload 4, 2) := by decide +kernel
theorem dX10_tells_21 : decode cX10_tells 21 = .ok (.invokevirtual 201, 3) := by decide +kernel
theorem dX10_tells_24 : decode cX10_tells 24 = .ok (.istore 5, 2) := by decide +kernel
theorem dX10_tells_26 : decode cX10_tells 26 = .ok (.iload 5, 2) := by decide +kernel
theorem dX10_tells_28 : decode cX10_tells 28 = .ok (.bipush (-9), 2) := by decide +kernel
theorem dX10_tells_30 : decode cX10_tells 30 = .ok (.if_icmp .eq 19, 3) := by decide +kernel
theorem dX10_tells_33 : decode cX10_tells 33 = .ok (.iload_n 3, 1) := by decide +kernel
theorem dX10_tells_34 : decode cX10_tells 34 = .ok (.bipush (-9), 2) := by decide +kernel
theorem dX10_tells_36 : decode cX10_tells 36 = .ok (.if_icmp .eq 9, 3) := by decide +kernel
theorem dX10_tells_39 : decode cX10_tells 39 = .ok (.iload 5, 2) := by decide +kernel
theorem dX10_tells_41 : decode cX10_tells 41 = .ok (.iload_n 3, 1) := by decide +kernel
theorem dX10_tells_42 : decode cX10_tells 42 = .ok (.if_icmp .ge 7, 3) := by decide +kernel
theorem dX10_tells_45 : decode cX10_tells 45 = .ok (.iconst 1, 1) := by decide +kernel
theorem dX10_tells_46 : decode cX10_tells 46 = .ok (.goto 4, 3) := by decide +kernel
theorem dX10_tells_49 : decode cX10_tells 49 = .ok (.iconst 0, 1) := by decide +kernel
theorem dX10_tells_50 : decode cX10_tells 50 = .ok (.istore 6, 2) := by decide +kernel
theorem dX10_tells_52 : decode cX10_tells 52 = .ok (.iload 6, 2) := by decide +kernel
theorem dX10_tells_54 : decode cX10_tells 54 = .ok (.ifCond .eq 8, 3) := by decide +kernel
theorem dX10_tells_57 : decode cX10_tells 57 = .ok (.iload 4, 2) := by decide +kernel
theorem dX10_tells_59 : decode cX10_tells 59 = .ok (.goto 4, 3) := by decide +kernel
theorem dX10_tells_62 : decode cX10_tells 62 = .ok (.iload_n 2, 1) := by decide +kernel
theorem dX10_tells_63 : decode cX10_tells 63 = .ok (.istore_n 2, 1) := by decide +kernel
theorem dX10_tells_64 : decode cX10_tells 64 = .ok (.iload 6, 2) := by decide +kernel
theorem dX10_tells_66 : decode cX10_tells 66 = .ok (.ifCond .eq 8, 3) := by decide +kernel
theorem dX10_tells_69 : decode cX10_tells 69 = .ok (.iload 5, 2) := by decide +kernel
theorem dX10_tells_71 : decode cX10_tells 71 = .ok (.goto 4, 3) := by decide +kernel
theorem dX10_tells_74 : decode cX10_tells 74 = .ok (.iload_n 3, 1) := by decide +kernel
theorem dX10_tells_75 : decode cX10_tells 75 = .ok (.istore_n 3, 1) := by decide +kernel
theorem dX10_tells_76 : decode cX10_tells 76 = .ok (.iinc 4 1, 3) := by decide +kernel
theorem dX10_tells_79 : decode cX10_tells 79 = .ok (.goto (-70), 3) := by decide +kernel
theorem dX10_tells_82 : decode cX10_tells 82 = .ok (.iload_n 1, 1) := by decide +kernel
theorem dX10_tells_83 : decode cX10_tells 83 = .ok (.ifCond .eq 7, 3) := by decide +kernel
theorem dX10_tells_86 : decode cX10_tells 86 = .ok (.iload_n 3, 1) := by decide +kernel
theorem dX10_tells_87 : decode cX10_tells 87 = .ok (.goto 4, 3) := by decide +kernel
theorem dX10_tells_90 : decode cX10_tells 90 = .ok (.iload_n 2, 1) := by decide +kernel
theorem dX10_tells_91 : decode cX10_tells 91 = .ok (.ireturn, 1) := by decide +kernel
theorem dX10_factorial_0 : decode cX10_factorial 0 = .ok (.iconst 1, 1) := by decide +kernel
theorem dX10_factorial_1 : decode cX10_factorial 1 = .ok (.istore_n 1, 1) := by decide +kernel
theorem dX10_factorial_2 : decode cX10_factorial 2 = .ok (.iconst 2, 1) := by decide +kernel
theorem dX10_factorial_3 : decode cX10_factorial 3 = .ok (.istore_n 2, 1) := by decide +kernel
theorem dX10_factorial_4 : decode cX10_factorial 4 = .ok (.iload_n 2, 1) := by decide +kernel
theorem dX10_factorial_5 : decode cX10_factorial 5 = .ok (.iload_n 0, 1) := by decide +kernel
theorem dX10_factorial_6 : decode cX10_factorial 6 = .ok (.if_icmp .gt 13, 3) := by decide +kernel
theorem dX10_factorial_9 : decode cX10_factorial 9 = .ok (.iload_n 1, 1) := by decide +kernel
theorem dX10_factorial_10 : decode cX10_factorial 10 = .ok (.iload_n 2, 1) := by decide +kernel
theorem dX10_factorial_11 : decode cX10_factorial 11 = .ok (.imul, 1) := by decide +kernel
theorem dX10_factorial_12 : decode cX10_factorial 12 = .ok (.istore_n 1, 1) := by decide +kernel
theorem dX10_factorial_13 : decode cX10_factorial 13 = .ok (.iinc 2 1, 3) := by decide +kernel
theorem dX10_factorial_16 : decode cX10_factorial 16 = .ok (.goto (-12), 3) := by decide +kernel
theorem dX10_factorial_19 : decode cX10_factorial 19 = .ok (.iload_n 1, 1) := by decide +kernel
theorem dX10_factorial_20 : decode cX10_factorial 20 = .ok (.ireturn, 1) := by decide +kernel
theorem dX10_common_0 : decode cX10_common 0 = .ok (.iload_n 0, 1) := by decide +kernel
theorem dX10_common_1 : decode cX10_common 1 = .ok (.ifCond .ge 8, 3) := by decide +kernel
theorem dX10_common_4 : decode cX10_common 4 = .ok (.iload_n 0, 1) := by decide +kernel
theorem dX10_common_5 : decode cX10_common 5 = .ok (.ineg, 1) := by decide +kernel
theorem dX10_common_6 : decode cX10_common 6 = .ok (.goto 4, 3) := by decide +kernel
theorem dX10_common_9 : decode cX10_common 9 = .ok (.iload_n 0, 1) := by decide +kernel
theorem dX10_common_10 : decode cX10_common 10 = .ok (.istore_n 2, 1) := by decide +kernel
theorem dX10_common_11 : decode cX10_common 11 = .ok (.iload_n 1, 1) := by decide +kernel
theorem dX10_common_12 : decode cX10_common 12 = .ok (.istore_n 3, 1) := by decide +kernel
theorem dX10_common_13 : decode cX10_common 13 = .ok (.iload_n 3, 1) := by decide +kernel
theorem dX10_common_14 : decode cX10_common 14 = .ok (.ifCond .eq 16, 3) := by decide +kernel
theorem dX10_common_17 : decode cX10_common 17 = .ok (.iload_n 2, 1) := by decide +kernel
theorem dX10_common_18 : decode cX10_common 18 = .ok (.iload_n 3, 1) := by decide +kernel
theorem dX10_common_19 : decode cX10_common 19 = .ok (.irem, 1) := by decide +kernel
theorem dX10_common_20 : decode cX10_common 20 = .ok (.istore 4, 2) := by decide +kernel
theorem dX10_common_22 : decode cX10_common 22 = .ok (.iload_n 3, 1) := by decide +kernel
theorem dX10_common_23 : decode cX10_common 23 = .ok (.istore_n 2, 1) := by decide +kernel
theorem dX10_common_24 : decode cX10_common 24 = .ok (.iload 4, 2) := by decide +kernel
theorem dX10_common_26 : decode cX10_common 26 = .ok (.istore_n 3, 1) := by decide +kernel
theorem dX10_common_27 : decode cX10_common 27 = .ok (.goto (-14), 3) := by decide +kernel
theorem dX10_common_30 : decode cX10_common 30 = .ok (.iload_n 2, 1) := by decide +kernel
theorem dX10_common_31 : decode cX10_common 31 = .ok (.ireturn, 1) := by decide +kernel
theorem dX10_share_0 : decode cX10_share 0 = .ok (.aload_n 0, 1) := by decide +kernel
theorem dX10_share_1 : decode cX10_share 1 = .ok (.iload_n 1, 1) := by decide +kernel
theorem dX10_share_2 : decode cX10_share 2 = .ok (.invokevirtual 147, 3) := by decide +kernel
theorem dX10_share_5 : decode cX10_share 5 = .ok (.ifCond .ne 5, 3) := by decide +kernel
theorem dX10_share_8 : decode cX10_share 8 = .ok (.iconst (-1), 1) := by decide +kernel
theorem dX10_share_9 : decode cX10_share 9 = .ok (.ireturn, 1) := by decide +kernel
theorem dX10_share_10 : decode cX10_share 10 = .ok (.aload_n 0, 1) := by decide +kernel
theorem dX10_share_11 : decode cX10_share 11 = .ok (.iload_n 2, 1) := by decide +kernel
theorem dX10_share_12 : decode cX10_share 12 = .ok (.invokevirtual 169, 3) := by decide +kernel
theorem dX10_share_15 : decode cX10_share 15 = .ok (.istore 4, 2) := by decide +kernel
theorem dX10_share_17 : decode cX10_share 17 = .ok (.iload 4, 2) := by decide +kernel
theorem dX10_share_19 : decode cX10_share 19 = .ok (.bipush (-9), 2) := by decide +kernel
theorem dX10_share_21 : decode cX10_share 21 = .ok (.if_icmp .ne 6, 3) := by decide +kernel
theorem dX10_share_24 : decode cX10_share 24 = .ok (.bipush (-2), 2) := by decide +kernel
theorem dX10_share_26 : decode cX10_share 26 = .ok (.ireturn, 1) := by decide +kernel
theorem dX10_share_27 : decode cX10_share 27 = .ok (.iconst 0, 1) := by decide +kernel
theorem dX10_share_28 : decode cX10_share 28 = .ok (.istore 5, 2) := by decide +kernel
theorem dX10_share_30 : decode cX10_share 30 = .ok (.iload 5, 2) := by decide +kernel
theorem dX10_share_32 : decode cX10_share 32 = .ok (.aload_n 0, 1) := by decide +kernel
theorem dX10_share_33 : decode cX10_share 33 = .ok (.invokevirtual 172, 3) := by decide +kernel
theorem dX10_share_36 : decode cX10_share 36 = .ok (.if_icmp .gt 24, 3) := by decide +kernel
theorem dX10_share_39 : decode cX10_share 39 = .ok (.aload_n 0, 1) := by decide +kernel
theorem dX10_share_40 : decode cX10_share 40 = .ok (.getfield 58, 3) := by decide +kernel
theorem dX10_share_43 : decode cX10_share 43 = .ok (.iload 5, 2) := by decide +kernel
theorem dX10_share_45 : decode cX10_share 45 = .ok (.aload_n 0, 1) := by decide +kernel
theorem dX10_share_46 : decode cX10_share 46 = .ok (.iload 4, 2) := by decide +kernel
theorem dX10_share_48 : decode cX10_share 48 = .ok (.iload 5, 2) := by decide +kernel
theorem dX10_share_50 : decode cX10_share 50 = .ok (.invokevirtual 178, 3) := by decide +kernel
theorem dX10_share_53 : decode cX10_share 53 = .ok (.iastore, 1) := by decide +kernel
theorem dX10_share_54 : decode cX10_share 54 = .ok (.iinc 5 1, 3) := by decide +kernel
theorem dX10_share_57 : decode cX10_share 57 = .ok (.goto (-27), 3) := by decide +kernel
theorem dX10_share_60 : decode cX10_share 60 = .ok (.iconst 0, 1) := by decide +kernel
theorem dX10_share_61 : decode cX10_share 61 = .ok (.istore 5, 2) := by decide +kernel
theorem dX10_share_63 : decode cX10_share 63 = .ok (.iconst 0, 1) := by decide +kernel
theorem dX10_share_64 : decode cX10_share 64 = .ok (.istore 6, 2) := by decide +kernel
theorem dX10_share_66 : decode cX10_share 66 = .ok (.iload 6, 2) := by decide +kernel
theorem dX10_share_68 : decode cX10_share 68 = .ok (.aload_n 0, 1) := by decide +kernel
theorem dX10_share_69 : decode cX10_share 69 = .ok (.invokevirtual 172, 3) := by decide +kernel
theorem dX10_share_72 : decode cX10_share 72 = .ok (.if_icmp .gt 71, 3) := by decide +kernel
theorem dX10_share_75 : decode cX10_share 75 = .ok (.iload 6, 2) := by decide +kernel
theorem dX10_share_77 : decode cX10_share 77 = .ok (.iload_n 1, 1) := by decide +kernel
theorem dX10_share_78 : decode cX10_share 78 = .ok (.invokestatic 89, 3) := by decide +kernel
theorem dX10_share_81 : decode cX10_share 81 = .ok (.ifCond .ne 56, 3) := by decide +kernel
theorem dX10_share_84 : decode cX10_share 84 = .ok (.iload 6, 2) := by decide +kernel
theorem dX10_share_86 : decode cX10_share 86 = .ok (.invokestatic 185, 3) := by decide +kernel
theorem dX10_share_89 : decode cX10_share 89 = .ok (.invokestatic 204, 3) := by decide +kernel
theorem dX10_share_92 : decode cX10_share 92 = .ok (.aload_n 0, 1) := by decide +kernel
theorem dX10_share_93 : decode cX10_share 93 = .ok (.getfield 114, 3) := by decide +kernel
theorem dX10_share_96 : decode cX10_share 96 = .ok (.iconst 1, 1) := by decide +kernel
theorem dX10_share_97 : decode cX10_share 97 = .ok (.isub, 1) := by decide +kernel
theorem dX10_share_98 : decode cX10_share 98 = .ok (.iload 6, 2) := by decide +kernel
theorem dX10_share_100 : decode cX10_share 100 = .ok (.invokestatic 185, 3) := by decide +kernel
theorem dX10_share_103 : decode cX10_share 103 = .ok (.isub, 1) := by decide +kernel
theorem dX10_share_104 : decode cX10_share 104 = .ok (.invokestatic 204, 3) := by decide +kernel
theorem dX10_share_107 : decode cX10_share 107 = .ok (.imul, 1) := by decide +kernel
theorem dX10_share_108 : decode cX10_share 108 = .ok (.istore 7, 2) := by decide +kernel
theorem dX10_share_110 : decode cX10_share 110 = .ok (.iload 5, 2) := by decide +kernel
theorem dX10_share_112 : decode cX10_share 112 = .ok (.iload 7, 2) := by decide +kernel
theorem dX10_share_114 : decode cX10_share 114 = .ok (.aload_n 0, 1) := by decide +kernel
theorem dX10_share_115 : decode cX10_share 115 = .ok (.getfield 58, 3) := by decide +kernel
theorem dX10_share_118 : decode cX10_share 118 = .ok (.iload 6, 2) := by decide +kernel
theorem dX10_share_120 : decode cX10_share 120 = .ok (.iconst 1, 1) := by decide +kernel
theorem dX10_share_121 : decode cX10_share 121 = .ok (.iload_n 1, 1) := by decide +kernel
theorem dX10_share_122 : decode cX10_share 122 = .ok (.ishl, 1) := by decide +kernel
theorem dX10_share_123 : decode cX10_share 123 = .ok (.ior, 1) := by decide +kernel
theorem dX10_share_124 : decode cX10_share 124 = .ok (.iaload, 1) := by decide +kernel
theorem dX10_share_125 : decode cX10_share 125 = .ok (.aload_n 0, 1) := by decide +kernel
theorem dX10_share_126 : decode cX10_share 126 = .ok (.getfield 58, 3) := by decide +kernel
theorem dX10_share_129 : decode cX10_share 129 = .ok (.iload 6, 2) := by decide +kernel
theorem dX10_share_131 : decode cX10_share 131 = .ok (.iaload, 1) := by decide +kernel
theorem dX10_share_132 : decode cX10_share 132 = .ok (.isub, 1) := by decide +kernel
theorem dX10_share_133 : decode cX10_share 133 = .ok (.imul, 1) := by decide +kernel
theorem dX10_share_134 : decode cX10_share 134 = .ok (.iadd, 1) := by decide +kernel
theorem dX10_share_135 : decode cX10_share 135 = .ok (.istore 5, 2) := by decide +kernel
theorem dX10_share_137 : decode cX10_share 137 = .ok (.iinc 6 1, 3) := by decide +kernel
theorem dX10_share_140 : decode cX10_share 140 = .ok (.goto (-74), 3) := by decide +kernel
theorem dX10_share_143 : decode cX10_share 143 = .ok (.iload 5, 2) := by decide +kernel
theorem dX10_share_145 : decode cX10_share 145 = .ok (.aload_n 0, 1) := by decide +kernel
theorem dX10_share_146 : decode cX10_share 146 = .ok (.getfield 114, 3) := by decide +kernel
theorem dX10_share_149 : decode cX10_share 149 = .ok (.invokestatic 204, 3) := by decide +kernel
theorem dX10_share_152 : decode cX10_share 152 = .ok (.invokestatic 207, 3) := by decide +kernel
theorem dX10_share_155 : decode cX10_share 155 = .ok (.istore 6, 2) := by decide +kernel
theorem dX10_share_157 : decode cX10_share 157 = .ok (.iload_n 3, 1) := by decide +kernel
theorem dX10_share_158 : decode cX10_share 158 = .ok (.ifCond .eq 11, 3) := by decide +kernel
theorem dX10_share_161 : decode cX10_share 161 = .ok (.iload 5, 2) := by decide +kernel
theorem dX10_share_163 : decode cX10_share 163 = .ok (.iload 6, 2) := by decide +kernel
theorem dX10_share_165 : decode cX10_share 165 = .ok (.idiv, 1) := by decide +kernel
theorem dX10_share_166 : decode cX10_share 166 = .ok (.goto 13, 3) := by decide +kernel
theorem dX10_share_169 : decode cX10_share 169 = .ok (.aload_n 0, 1) := by decide +kernel
theorem dX10_share_170 : decode cX10_share 170 = .ok (.getfield 114, 3) := by decide +kernel
theorem dX10_share_173 : decode cX10_share 173 = .ok (.invokestatic 204, 3) := by decide +kernel
theorem dX10_share_176 : decode cX10_share 176 = .ok (.iload 6, 2) := by decide +kernel
theorem dX10_share_178 : decode cX10_share 178 = .ok (.idiv, 1) := by decide +kernel
theorem dX10_share_179 : decode cX10_share 179 = .ok (.ireturn, 1) := by decide +kernel
theorem dX10_apart_0 : decode cX10_apart 0 = .ok (.iload_n 0, 1) := by decide +kernel
theorem dX10_apart_1 : decode cX10_apart 1 = .ok (.iload_n 1, 1) := by decide +kernel
theorem dX10_apart_2 : decode cX10_apart 2 = .ok (.if_icmp .ge 9, 3) := by decide +kernel
theorem dX10_apart_5 : decode cX10_apart 5 = .ok (.iload_n 1, 1) := by decide +kernel
theorem dX10_apart_6 : decode cX10_apart 6 = .ok (.iload_n 0, 1) := by decide +kernel
theorem dX10_apart_7 : decode cX10_apart 7 = .ok (.isub, 1) := by decide +kernel
theorem dX10_apart_8 : decode cX10_apart 8 = .ok (.goto 6, 3) := by decide +kernel
theorem dX10_apart_11 : decode cX10_apart 11 = .ok (.iload_n 0, 1) := by decide +kernel
theorem dX10_apart_12 : decode cX10_apart 12 = .ok (.iload_n 1, 1) := by decide +kernel
theorem dX10_apart_13 : decode cX10_apart 13 = .ok (.isub, 1) := by decide +kernel
theorem dX10_apart_14 : decode cX10_apart 14 = .ok (.ireturn, 1) := by decide +kernel
theorem dX10_loses_0 : decode cX10_loses 0 = .ok (.iload_n 3, 1) := by decide +kernel
theorem dX10_loses_1 : decode cX10_loses 1 = .ok (.ifCond .le 23, 3) := by decide +kernel
theorem dX10_loses_4 : decode cX10_loses 4 = .ok (.aload_n 0, 1) := by decide +kernel
theorem dX10_loses_5 : decode cX10_loses 5 = .ok (.getfield 25, 3) := by decide +kernel
theorem dX10_loses_8 : decode cX10_loses 8 = .ok (.sipush 256, 3) := by decide +kernel
theorem dX10_loses_11 : decode cX10_loses 11 = .ok (.iload_n 3, 1) := by decide +kernel
theorem dX10_loses_12 : decode cX10_loses 12 = .ok (.iconst 1, 1) := by decide +kernel
theorem dX10_loses_13 : decode cX10_loses 13 = .ok (.isub, 1) := by decide +kernel
theorem dX10_loses_14 : decode cX10_loses 14 = .ok (.imul, 1) := by decide +kernel
theorem dX10_loses_15 : decode cX10_loses 15 = .ok (.aload_n 0, 1) := by decide +kernel
theorem dX10_loses_16 : decode cX10_loses 16 = .ok (.getfield 117, 3) := by decide +kernel
theorem dX10_loses_19 : decode cX10_loses 19 = .ok (.iadd, 1) := by decide +kernel
theorem dX10_loses_20 : decode cX10_loses 20 = .ok (.iaload, 1) := by decide +kernel
theorem dX10_loses_21 : decode cX10_loses 21 = .ok (.goto 7, 3) := by decide +kernel
theorem dX10_loses_24 : decode cX10_loses 24 = .ok (.aload_n 0, 1) := by decide +kernel
theorem dX10_loses_25 : decode cX10_loses 25 = .ok (.getfield 117, 3) := by decide +kernel
theorem dX10_loses_28 : decode cX10_loses 28 = .ok (.istore 6, 2) := by decide +kernel
theorem dX10_loses_30 : decode cX10_loses 30 = .ok (.iload 4, 2) := by decide +kernel
theorem dX10_loses_32 : decode cX10_loses 32 = .ok (.ifCond .le 22, 3) := by decide +kernel
theorem dX10_loses_35 : decode cX10_loses 35 = .ok (.aload_n 0, 1) := by decide +kernel
theorem dX10_loses_36 : decode cX10_loses 36 = .ok (.getfield 25, 3) := by decide +kernel
theorem dX10_loses_39 : decode cX10_loses 39 = .ok (.sipush 256, 3) := by decide +kernel
theorem dX10_loses_42 : decode cX10_loses 42 = .ok (.iload 4, 2) := by decide +kernel
theorem dX10_loses_44 : decode cX10_loses 44 = .ok (.iconst 1, 1) := by decide +kernel
theorem dX10_loses_45 : decode cX10_loses 45 = .ok (.isub, 1) := by decide +kernel
theorem dX10_loses_46 : decode cX10_loses 46 = .ok (.imul, 1) := by decide +kernel
theorem dX10_loses_47 : decode cX10_loses 47 = .ok (.iload 6, 2) := by decide +kernel
theorem dX10_loses_49 : decode cX10_loses 49 = .ok (.iadd, 1) := by decide +kernel
theorem dX10_loses_50 : decode cX10_loses 50 = .ok (.iaload, 1) := by decide +kernel
theorem dX10_loses_51 : decode cX10_loses 51 = .ok (.goto 5, 3) := by decide +kernel
theorem dX10_loses_54 : decode cX10_loses 54 = .ok (.iload 6, 2) := by decide +kernel
theorem dX10_loses_56 : decode cX10_loses 56 = .ok (.istore 6, 2) := by decide +kernel
theorem dX10_loses_58 : decode cX10_loses 58 = .ok (.aload_n 0, 1) := by decide +kernel
theorem dX10_loses_59 : decode cX10_loses 59 = .ok (.iload 6, 2) := by decide +kernel
theorem dX10_loses_61 : decode cX10_loses 61 = .ok (.iload_n 1, 1) := by decide +kernel
theorem dX10_loses_62 : decode cX10_loses 62 = .ok (.invokevirtual 133, 3) := by decide +kernel
theorem dX10_loses_65 : decode cX10_loses 65 = .ok (.iload_n 2, 1) := by decide +kernel
theorem dX10_loses_66 : decode cX10_loses 66 = .ok (.invokestatic 210, 3) := by decide +kernel
theorem dX10_loses_69 : decode cX10_loses 69 = .ok (.iload 5, 2) := by decide +kernel
theorem dX10_loses_71 : decode cX10_loses 71 = .ok (.ifCond .le 7, 3) := by decide +kernel
theorem dX10_loses_74 : decode cX10_loses 74 = .ok (.iconst 1, 1) := by decide +kernel
theorem dX10_loses_75 : decode cX10_loses 75 = .ok (.goto 4, 3) := by decide +kernel
theorem dX10_loses_78 : decode cX10_loses 78 = .ok (.iconst 0, 1) := by decide +kernel
theorem dX10_loses_79 : decode cX10_loses 79 = .ok (.iadd, 1) := by decide +kernel
theorem dX10_loses_80 : decode cX10_loses 80 = .ok (.ireturn, 1) := by decide +kernel
theorem dX10_isRest_0 : decode cX10_isRest 0 = .ok (.iconst 1, 1) := by decide +kernel
theorem dX10_isRest_1 : decode cX10_isRest 1 = .ok (.istore 7, 2) := by decide +kernel
theorem dX10_isRest_3 : decode cX10_isRest 3 = .ok (.iconst 0, 1) := by decide +kernel
theorem dX10_isRest_4 : decode cX10_isRest 4 = .ok (.istore 8, 2) := by decide +kernel
theorem dX10_isRest_6 : decode cX10_isRest 6 = .ok (.iload 8, 2) := by decide +kernel
theorem dX10_isRest_8 : decode cX10_isRest 8 = .ok (.aload_n 0, 1) := by decide +kernel
theorem dX10_isRest_9 : decode cX10_isRest 9 = .ok (.getfield 114, 3) := by decide +kernel
theorem dX10_isRest_12 : decode cX10_isRest 12 = .ok (.if_icmp .gt 77, 3) := by decide +kernel
theorem dX10_isRest_15 : decode cX10_isRest 15 = .ok (.iload 7, 2) := by decide +kernel
theorem dX10_isRest_17 : decode cX10_isRest 17 = .ok (.ifCond .eq 63, 3) := by decide +kernel
theorem dX10_isRest_20 : decode cX10_isRest 20 = .ok (.aload_n 0, 1) := by decide +kernel
theorem dX10_isRest_21 : decode cX10_isRest 21 = .ok (.iload_n 1, 1) := by decide +kernel
theorem dX10_isRest_22 : decode cX10_isRest 22 = .ok (.iload_n 2, 1) := by decide +kernel
theorem dX10_isRest_23 : decode cX10_isRest 23 = .ok (.iload 8, 2) := by decide +kernel
theorem dX10_isRest_25 : decode cX10_isRest 25 = .ok (.iload 6, 2) := by decide +kernel
theorem dX10_isRest_27 : decode cX10_isRest 27 = .ok (.iload 8, 2) := by decide +kernel
theorem dX10_isRest_29 : decode cX10_isRest 29 = .ok (.invokevirtual 213, 3) := by decide +kernel
theorem dX10_isRest_32 : decode cX10_isRest 32 = .ok (.aload_n 0, 1) := by decide +kernel
theorem dX10_isRest_33 : decode cX10_isRest 33 = .ok (.iload_n 1, 1) := by decide +kernel
theorem dX10_isRest_34 : decode cX10_isRest 34 = .ok (.iload_n 2, 1) := by decide +kernel
theorem dX10_isRest_35 : decode cX10_isRest 35 = .ok (.iload 5, 2) := by decide +kernel
theorem dX10_isRest_37 : decode cX10_isRest 37 = .ok (.iload 6, 2) := by decide +kernel
theorem dX10_isRest_39 : decode cX10_isRest 39 = .ok (.iload 5, 2) := by decide +kernel
theorem dX10_isRest_41 : decode cX10_isRest 41 = .ok (.invokevirtual 213, 3) := by decide +kernel
theorem dX10_isRest_44 : decode cX10_isRest 44 = .ok (.if_icmp .lt 36, 3) := by decide +kernel
theorem dX10_isRest_47 : decode cX10_isRest 47 = .ok (.aload_n 0, 1) := by decide +kernel
theorem dX10_isRest_48 : decode cX10_isRest 48 = .ok (.iload_n 3, 1) := by decide +kernel
theorem dX10_isRest_49 : decode cX10_isRest 49 = .ok (.iload 4, 2) := by decide +kernel
theorem dX10_isRest_51 : decode cX10_isRest 51 = .ok (.iload 5, 2) := by decide +kernel
theorem dX10_isRest_53 : decode cX10_isRest 53 = .ok (.iload 8, 2) := by decide +kernel
theorem dX10_isRest_55 : decode cX10_isRest 55 = .ok (.iload 8, 2) := by decide +kernel
theorem dX10_isRest_57 : decode cX10_isRest 57 = .ok (.invokevirtual 213, 3) := by decide +kernel
theorem dX10_isRest_60 : decode cX10_isRest 60 = .ok (.aload_n 0, 1) := by decide +kernel
theorem dX10_isRest_61 : decode cX10_isRest 61 = .ok (.iload_n 3, 1) := by decide +kernel
theorem dX10_isRest_62 : decode cX10_isRest 62 = .ok (.iload 4, 2) := by decide +kernel
theorem dX10_isRest_64 : decode cX10_isRest 64 = .ok (.iload 5, 2) := by decide +kernel
theorem dX10_isRest_66 : decode cX10_isRest 66 = .ok (.iload 6, 2) := by decide +kernel
theorem dX10_isRest_68 : decode cX10_isRest 68 = .ok (.iload 6, 2) := by decide +kernel
theorem dX10_isRest_70 : decode cX10_isRest 70 = .ok (.invokevirtual 213, 3) := by decide +kernel
theorem dX10_isRest_73 : decode cX10_isRest 73 = .ok (.if_icmp .lt 7, 3) := by decide +kernel
theorem dX10_isRest_76 : decode cX10_isRest 76 = .ok (.iconst 1, 1) := by decide +kernel
theorem dX10_isRest_77 : decode cX10_isRest 77 = .ok (.goto 4, 3) := by decide +kernel
theorem dX10_isRest_80 : decode cX10_isRest 80 = .ok (.iconst 0, 1) := by decide +kernel
theorem dX10_isRest_81 : decode cX10_isRest 81 = .ok (.istore 7, 2) := by decide +kernel
theorem dX10_isRest_83 : decode cX10_isRest 83 = .ok (.iinc 8 1, 3) := by decide +kernel
theorem dX10_isRest_86 : decode cX10_isRest 86 = .ok (.goto (-80), 3) := by decide +kernel
theorem dX10_isRest_89 : decode cX10_isRest 89 = .ok (.iload 7, 2) := by decide +kernel
theorem dX10_isRest_91 : decode cX10_isRest 91 = .ok (.ireturn, 1) := by decide +kernel
theorem dX10_rests_0 : decode cX10_rests 0 = .ok (.aload_n 0, 1) := by decide +kernel
theorem dX10_rests_1 : decode cX10_rests 1 = .ok (.iload_n 1, 1) := by decide +kernel
theorem dX10_rests_2 : decode cX10_rests 2 = .ok (.invokevirtual 143, 3) := by decide +kernel
theorem dX10_rests_5 : decode cX10_rests 5 = .ok (.ifCond .eq 11, 3) := by decide +kernel
theorem dX10_rests_8 : decode cX10_rests 8 = .ok (.aload_n 0, 1) := by decide +kernel
theorem dX10_rests_9 : decode cX10_rests 9 = .ok (.iload_n 3, 1) := by decide +kernel
theorem dX10_rests_10 : decode cX10_rests 10 = .ok (.invokevirtual 143, 3) := by decide +kernel
theorem dX10_rests_13 : decode cX10_rests 13 = .ok (.ifCond .ne 5, 3) := by decide +kernel
theorem dX10_rests_16 : decode cX10_rests 16 = .ok (.iconst (-1), 1) := by decide +kernel
theorem dX10_rests_17 : decode cX10_rests 17 = .ok (.ireturn, 1) := by decide +kernel
theorem dX10_rests_18 : decode cX10_rests 18 = .ok (.iload_n 2, 1) := by decide +kernel
theorem dX10_rests_19 : decode cX10_rests 19 = .ok (.i2l, 1) := by decide +kernel
theorem dX10_rests_20 : decode cX10_rests 20 = .ok (.lconst 0, 1) := by decide +kernel
theorem dX10_rests_21 : decode cX10_rests 21 = .ok (.aload_n 0, 1) := by decide +kernel
theorem dX10_rests_22 : decode cX10_rests 22 = .ok (.getfield 7, 3) := by decide +kernel
theorem dX10_rests_25 : decode cX10_rests 25 = .ok (.iload_n 1, 1) := by decide +kernel
theorem dX10_rests_26 : decode cX10_rests 26 = .ok (.iaload, 1) := by decide +kernel
theorem dX10_rests_27 : decode cX10_rests 27 = .ok (.iconst 1, 1) := by decide +kernel
theorem dX10_rests_28 : decode cX10_rests 28 = .ok (.isub, 1) := by decide +kernel
theorem dX10_rests_29 : decode cX10_rests 29 = .ok (.i2l, 1) := by decide +kernel
theorem dX10_rests_30 : decode cX10_rests 30 = .ok (.invokestatic 74, 3) := by decide +kernel
theorem dX10_rests_33 : decode cX10_rests 33 = .ok (.ifCond .eq 33, 3) := by decide +kernel
theorem dX10_rests_36 : decode cX10_rests 36 = .ok (.iload 4, 2) := by decide +kernel
theorem dX10_rests_38 : decode cX10_rests 38 = .ok (.i2l, 1) := by decide +kernel
theorem dX10_rests_39 : decode cX10_rests 39 = .ok (.lconst 0, 1) := by decide +kernel
theorem dX10_rests_40 : decode cX10_rests 40 = .ok (.aload_n 0, 1) := by decide +kernel
theorem dX10_rests_41 : decode cX10_rests 41 = .ok (.getfield 7, 3) := by decide +kernel
theorem dX10_rests_44 : decode cX10_rests 44 = .ok (.iload_n 3, 1) := by decide +kernel
theorem dX10_rests_45 : decode cX10_rests 45 = .ok (.iaload, 1) := by decide +kernel
theorem dX10_rests_46 : decode cX10_rests 46 = .ok (.iconst 1, 1) := by decide +kernel
theorem dX10_rests_47 : decode cX10_rests 47 = .ok (.isub, 1) := by decide +kernel
theorem dX10_rests_48 : decode cX10_rests 48 = .ok (.i2l, 1) := by decide +kernel
theorem dX10_rests_49 : decode cX10_rests 49 = .ok (.invokestatic 74, 3) := by decide +kernel
theorem dX10_rests_52 : decode cX10_rests 52 = .ok (.ifCond .eq 14, 3) := by decide +kernel
theorem dX10_rests_55 : decode cX10_rests 55 = .ok (.iload 5, 2) := by decide +kernel
theorem dX10_rests_57 : decode cX10_rests 57 = .ok (.i2l, 1) := by decide +kernel
theorem dX10_rests_58 : decode cX10_rests 58 = .ok (.lconst 0, 1) := by decide +kernel
theorem dX10_rests_59 : decode cX10_rests 59 = .ok (.lconst 1, 1) := by decide +kernel
theorem dX10_rests_60 : decode cX10_rests 60 = .ok (.invokestatic 74, 3) := by decide +kernel
theorem dX10_rests_63 : decode cX10_rests 63 = .ok (.ifCond .ne 6, 3) := by decide +kernel
theorem dX10_rests_66 : decode cX10_rests 66 = .ok (.bipush (-2), 2) := by decide +kernel
theorem dX10_rests_68 : decode cX10_rests 68 = .ok (.ireturn, 1) := by decide +kernel
theorem dX10_rests_69 : decode cX10_rests 69 = .ok (.iconst 0, 1) := by decide +kernel
theorem dX10_rests_70 : decode cX10_rests 70 = .ok (.istore 6, 2) := by decide +kernel
theorem dX10_rests_72 : decode cX10_rests 72 = .ok (.bipush (-9), 2) := by decide +kernel
theorem dX10_rests_74 : decode cX10_rests 74 = .ok (.istore 7, 2) := by decide +kernel
theorem dX10_rests_76 : decode cX10_rests 76 = .ok (.iconst 0, 1) := by decide +kernel
theorem dX10_rests_77 : decode cX10_rests 77 = .ok (.istore 8, 2) := by decide +kernel
theorem dX10_rests_79 : decode cX10_rests 79 = .ok (.iload 8, 2) := by decide +kernel
theorem dX10_rests_81 : decode cX10_rests 81 = .ok (.aload_n 0, 1) := by decide +kernel
theorem dX10_rests_82 : decode cX10_rests 82 = .ok (.getfield 114, 3) := by decide +kernel
theorem dX10_rests_85 : decode cX10_rests 85 = .ok (.if_icmp .gt 66, 3) := by decide +kernel
theorem dX10_rests_88 : decode cX10_rests 88 = .ok (.iconst 0, 1) := by decide +kernel
theorem dX10_rests_89 : decode cX10_rests 89 = .ok (.istore 9, 2) := by decide +kernel
theorem dX10_rests_91 : decode cX10_rests 91 = .ok (.iload 9, 2) := by decide +kernel
theorem dX10_rests_93 : decode cX10_rests 93 = .ok (.aload_n 0, 1) := by decide +kernel
theorem dX10_rests_94 : decode cX10_rests 94 = .ok (.getfield 114, 3) := by decide +kernel
theorem dX10_rests_97 : decode cX10_rests 97 = .ok (.if_icmp .gt 48, 3) := by decide +kernel
theorem dX10_rests_100 : decode cX10_rests 100 = .ok (.aload_n 0, 1) := by decide +kernel
theorem dX10_rests_101 : decode cX10_rests 101 = .ok (.iload_n 1, 1) := by decide +kernel
theorem dX10_rests_102 : decode cX10_rests 102 = .ok (.iload_n 2, 1) := by decide +kernel
theorem dX10_rests_103 : decode cX10_rests 103 = .ok (.iload_n 3, 1) := by decide +kernel
theorem dX10_rests_104 : decode cX10_rests 104 = .ok (.iload 4, 2) := by decide +kernel
theorem dX10_rests_106 : decode cX10_rests 106 = .ok (.iload 8, 2) := by decide +kernel
theorem dX10_rests_108 : decode cX10_rests 108 = .ok (.iload 9, 2) := by decide +kernel
theorem dX10_rests_110 : decode cX10_rests 110 = .ok (.invokevirtual 217, 3) := by decide +kernel
theorem dX10_rests_113 : decode cX10_rests 113 = .ok (.ifCond .eq 26, 3) := by decide +kernel
theorem dX10_rests_116 : decode cX10_rests 116 = .ok (.iload 6, 2) := by decide +kernel
theorem dX10_rests_118 : decode cX10_rests 118 = .ok (.ifCond .ne 14, 3) := by decide +kernel
theorem dX10_rests_121 : decode cX10_rests 121 = .ok (.bipush 10, 2) := by decide +kernel
theorem dX10_rests_123 : decode cX10_rests 123 = .ok (.iload 8, 2) := by decide +kernel
theorem dX10_rests_125 : decode cX10_rests 125 = .ok (.imul, 1) := by decide +kernel
theorem dX10_rests_126 : decode cX10_rests 126 = .ok (.iload 9, 2) := by decide +kernel
theorem dX10_rests_128 : decode cX10_rests 128 = .ok (.iadd, 1) := by decide +kernel
theorem dX10_rests_129 : decode cX10_rests 129 = .ok (.goto 5, 3) := by decide +kernel
theorem dX10_rests_132 : decode cX10_rests 132 = .ok (.iload 7, 2) := by decide +kernel
theorem dX10_rests_134 : decode cX10_rests 134 = .ok (.istore 7, 2) := by decide +kernel
theorem dX10_rests_136 : decode cX10_rests 136 = .ok (.iinc 6 1, 3) := by decide +kernel
theorem dX10_rests_139 : decode cX10_rests 139 = .ok (.iinc 9 1, 3) := by decide +kernel
theorem dX10_rests_142 : decode cX10_rests 142 = .ok (.goto (-51), 3) := by decide +kernel
theorem dX10_rests_145 : decode cX10_rests 145 = .ok (.iinc 8 1, 3) := by decide +kernel
theorem dX10_rests_148 : decode cX10_rests 148 = .ok (.goto (-69), 3) := by decide +kernel
theorem dX10_rests_151 : decode cX10_rests 151 = .ok (.iload 5, 2) := by decide +kernel
theorem dX10_rests_153 : decode cX10_rests 153 = .ok (.ifCond .ne 8, 3) := by decide +kernel
theorem dX10_rests_156 : decode cX10_rests 156 = .ok (.iload 6, 2) := by decide +kernel
theorem dX10_rests_158 : decode cX10_rests 158 = .ok (.goto 5, 3) := by decide +kernel
theorem dX10_rests_161 : decode cX10_rests 161 = .ok (.iload 7, 2) := by decide +kernel
theorem dX10_rests_163 : decode cX10_rests 163 = .ok (.ireturn, 1) := by decide +kernel
theorem dX10_weak_0 : decode cX10_weak 0 = .ok (.aload_n 0, 1) := by decide +kernel
theorem dX10_weak_1 : decode cX10_weak 1 = .ok (.iload_n 1, 1) := by decide +kernel
theorem dX10_weak_2 : decode cX10_weak 2 = .ok (.invokevirtual 147, 3) := by decide +kernel
theorem dX10_weak_5 : decode cX10_weak 5 = .ok (.ifCond .ne 5, 3) := by decide +kernel
theorem dX10_weak_8 : decode cX10_weak 8 = .ok (.iconst (-1), 1) := by decide +kernel
theorem dX10_weak_9 : decode cX10_weak 9 = .ok (.ireturn, 1) := by decide +kernel
theorem dX10_weak_10 : decode cX10_weak 10 = .ok (.aload_n 0, 1) := by decide +kernel
theorem dX10_weak_11 : decode cX10_weak 11 = .ok (.iload_n 3, 1) := by decide +kernel
theorem dX10_weak_12 : decode cX10_weak 12 = .ok (.invokevirtual 169, 3) := by decide +kernel
theorem dX10_weak_15 : decode cX10_weak 15 = .ok (.istore 6, 2) := by decide +kernel
theorem dX10_weak_17 : decode cX10_weak 17 = .ok (.iload_n 2, 1) := by decide +kernel
theorem dX10_weak_18 : decode cX10_weak 18 = .ok (.i2l, 1) := by decide +kernel
theorem dX10_weak_19 : decode cX10_weak 19 = .ok (.lconst 1, 1) := by decide +kernel
theorem dX10_weak_20 : decode cX10_weak 20 = .ok (.ldc2_w 221, 3) := by decide +kernel
theorem dX10_weak_23 : decode cX10_weak 23 = .ok (.invokestatic 74, 3) := by decide +kernel
theorem dX10_weak_26 : decode cX10_weak 26 = .ok (.ifCond .eq 23, 3) := by decide +kernel
theorem dX10_weak_29 : decode cX10_weak 29 = .ok (.iload 6, 2) := by decide +kernel
theorem dX10_weak_31 : decode cX10_weak 31 = .ok (.bipush (-9), 2) := by decide +kernel
theorem dX10_weak_33 : decode cX10_weak 33 = .ok (.if_icmp .eq 16, 3) := by decide +kernel
theorem dX10_weak_36 : decode cX10_weak 36 = .ok (.iload 4, 2) := by decide +kernel
theorem dX10_weak_38 : decode cX10_weak 38 = .ok (.i2l, 1) := by decide +kernel
theorem dX10_weak_39 : decode cX10_weak 39 = .ok (.lconst 0, 1) := by decide +kernel
theorem dX10_weak_40 : decode cX10_weak 40 = .ok (.ldc2_w 223, 3) := by decide +kernel
theorem dX10_weak_43 : decode cX10_weak 43 = .ok (.invokestatic 74, 3) := by decide +kernel
theorem dX10_weak_46 : decode cX10_weak 46 = .ok (.ifCond .ne 6, 3) := by decide +kernel
theorem dX10_weak_49 : decode cX10_weak 49 = .ok (.bipush (-2), 2) := by decide +kernel
theorem dX10_weak_51 : decode cX10_weak 51 = .ok (.ireturn, 1) := by decide +kernel
theorem dX10_weak_52 : decode cX10_weak 52 = .ok (.iconst 0, 1) := by decide +kernel
theorem dX10_weak_53 : decode cX10_weak 53 = .ok (.istore 7, 2) := by decide +kernel
theorem dX10_weak_55 : decode cX10_weak 55 = .ok (.iconst 0, 1) := by decide +kernel
theorem dX10_weak_56 : decode cX10_weak 56 = .ok (.istore 8, 2) := by decide +kernel
theorem dX10_weak_58 : decode cX10_weak 58 = .ok (.iconst 0, 1) := by decide +kernel
theorem dX10_weak_59 : decode cX10_weak 59 = .ok (.istore 9, 2) := by decide +kernel
theorem dX10_weak_61 : decode cX10_weak 61 = .ok (.iload 9, 2) := by decide +kernel
theorem dX10_weak_63 : decode cX10_weak 63 = .ok (.iconst 1, 1) := by decide +kernel
theorem dX10_weak_64 : decode cX10_weak 64 = .ok (.iload_n 2, 1) := by decide +kernel
theorem dX10_weak_65 : decode cX10_weak 65 = .ok (.ishl, 1) := by decide +kernel
theorem dX10_weak_66 : decode cX10_weak 66 = .ok (.if_icmp .ge 113, 3) := by decide +kernel
theorem dX10_weak_69 : decode cX10_weak 69 = .ok (.iconst 1, 1) := by decide +kernel
theorem dX10_weak_70 : decode cX10_weak 70 = .ok (.istore 10, 2) := by decide +kernel
theorem dX10_weak_72 : decode cX10_weak 72 = .ok (.aload_n 0, 1) := by decide +kernel
theorem dX10_weak_73 : decode cX10_weak 73 = .ok (.getfield 117, 3) := by decide +kernel
theorem dX10_weak_76 : decode cX10_weak 76 = .ok (.istore 11, 2) := by decide +kernel
theorem dX10_weak_78 : decode cX10_weak 78 = .ok (.iconst 0, 1) := by decide +kernel
theorem dX10_weak_79 : decode cX10_weak 79 = .ok (.istore 12, 2) := by decide +kernel
theorem dX10_weak_81 : decode cX10_weak 81 = .ok (.iload 12, 2) := by decide +kernel
theorem dX10_weak_83 : decode cX10_weak 83 = .ok (.iload_n 2, 1) := by decide +kernel
theorem dX10_weak_84 : decode cX10_weak 84 = .ok (.if_icmp .ge 64, 3) := by decide +kernel
theorem dX10_weak_87 : decode cX10_weak 87 = .ok (.iload 10, 2) := by decide +kernel
theorem dX10_weak_89 : decode cX10_weak 89 = .ok (.iload 9, 2) := by decide +kernel
theorem dX10_weak_91 : decode cX10_weak 91 = .ok (.iload 12, 2) := by decide +kernel
theorem dX10_weak_93 : decode cX10_weak 93 = .ok (.invokestatic 89, 3) := by decide +kernel
theorem dX10_weak_96 : decode cX10_weak 96 = .ok (.ifCond .eq 11, 3) := by decide +kernel
theorem dX10_weak_99 : decode cX10_weak 99 = .ok (.bipush 10, 2) := by decide +kernel
theorem dX10_weak_101 : decode cX10_weak 101 = .ok (.iload 4, 2) := by decide +kernel
theorem dX10_weak_103 : decode cX10_weak 103 = .ok (.isub, 1) := by decide +kernel
theorem dX10_weak_104 : decode cX10_weak 104 = .ok (.goto 5, 3) := by decide +kernel
theorem dX10_weak_107 : decode cX10_weak 107 = .ok (.iload 4, 2) := by decide +kernel
theorem dX10_weak_109 : decode cX10_weak 109 = .ok (.imul, 1) := by decide +kernel
theorem dX10_weak_110 : decode cX10_weak 110 = .ok (.istore 10, 2) := by decide +kernel
theorem dX10_weak_112 : decode cX10_weak 112 = .ok (.iload 9, 2) := by decide +kernel
theorem dX10_weak_114 : decode cX10_weak 114 = .ok (.iload 12, 2) := by decide +kernel
theorem dX10_weak_116 : decode cX10_weak 116 = .ok (.invokestatic 89, 3) := by decide +kernel
theorem dX10_weak_119 : decode cX10_weak 119 = .ok (.ifCond .eq 19, 3) := by decide +kernel
theorem dX10_weak_122 : decode cX10_weak 122 = .ok (.aload_n 0, 1) := by decide +kernel
theorem dX10_weak_123 : decode cX10_weak 123 = .ok (.getfield 25, 3) := by decide +kernel
theorem dX10_weak_126 : decode cX10_weak 126 = .ok (.sipush 256, 3) := by decide +kernel
theorem dX10_weak_129 : decode cX10_weak 129 = .ok (.iload_n 1, 1) := by decide +kernel
theorem dX10_weak_130 : decode cX10_weak 130 = .ok (.imul, 1) := by decide +kernel
theorem dX10_weak_131 : decode cX10_weak 131 = .ok (.iload 11, 2) := by decide +kernel
theorem dX10_weak_133 : decode cX10_weak 133 = .ok (.iadd, 1) := by decide +kernel
theorem dX10_weak_134 : decode cX10_weak 134 = .ok (.iaload, 1) := by decide +kernel
theorem dX10_weak_135 : decode cX10_weak 135 = .ok (.goto 5, 3) := by decide +kernel
theorem dX10_weak_138 : decode cX10_weak 138 = .ok (.iload 11, 2) := by decide +kernel
theorem dX10_weak_140 : decode cX10_weak 140 = .ok (.istore 11, 2) := by decide +kernel
theorem dX10_weak_142 : decode cX10_weak 142 = .ok (.iinc 12 1, 3) := by decide +kernel
theorem dX10_weak_145 : decode cX10_weak 145 = .ok (.goto (-64), 3) := by decide +kernel
theorem dX10_weak_148 : decode cX10_weak 148 = .ok (.iload 8, 2) := by decide +kernel
theorem dX10_weak_150 : decode cX10_weak 150 = .ok (.iload 10, 2) := by decide +kernel
theorem dX10_weak_152 : decode cX10_weak 152 = .ok (.iadd, 1) := by decide +kernel
theorem dX10_weak_153 : decode cX10_weak 153 = .ok (.istore 8, 2) := by decide +kernel
theorem dX10_weak_155 : decode cX10_weak 155 = .ok (.iload 7, 2) := by decide +kernel
theorem dX10_weak_157 : decode cX10_weak 157 = .ok (.iload 11, 2) := by decide +kernel
theorem dX10_weak_159 : decode cX10_weak 159 = .ok (.iload 6, 2) := by decide +kernel
theorem dX10_weak_161 : decode cX10_weak 161 = .ok (.if_icmp .ne 8, 3) := by decide +kernel
theorem dX10_weak_164 : decode cX10_weak 164 = .ok (.iload 10, 2) := by decide +kernel
theorem dX10_weak_166 : decode cX10_weak 166 = .ok (.goto 4, 3) := by decide +kernel
theorem dX10_weak_169 : decode cX10_weak 169 = .ok (.iconst 0, 1) := by decide +kernel
theorem dX10_weak_170 : decode cX10_weak 170 = .ok (.iadd, 1) := by decide +kernel
theorem dX10_weak_171 : decode cX10_weak 171 = .ok (.istore 7, 2) := by decide +kernel
theorem dX10_weak_173 : decode cX10_weak 173 = .ok (.iinc 9 1, 3) := by decide +kernel
theorem dX10_weak_176 : decode cX10_weak 176 = .ok (.goto (-115), 3) := by decide +kernel
theorem dX10_weak_179 : decode cX10_weak 179 = .ok (.iload 7, 2) := by decide +kernel
theorem dX10_weak_181 : decode cX10_weak 181 = .ok (.iload 8, 2) := by decide +kernel
theorem dX10_weak_183 : decode cX10_weak 183 = .ok (.invokestatic 207, 3) := by decide +kernel
theorem dX10_weak_186 : decode cX10_weak 186 = .ok (.istore 9, 2) := by decide +kernel
theorem dX10_weak_188 : decode cX10_weak 188 = .ok (.iload 5, 2) := by decide +kernel
theorem dX10_weak_190 : decode cX10_weak 190 = .ok (.ifCond .eq 11, 3) := by decide +kernel
theorem dX10_weak_193 : decode cX10_weak 193 = .ok (.iload 7, 2) := by decide +kernel
theorem dX10_weak_195 : decode cX10_weak 195 = .ok (.iload 9, 2) := by decide +kernel
theorem dX10_weak_197 : decode cX10_weak 197 = .ok (.idiv, 1) := by decide +kernel
theorem dX10_weak_198 : decode cX10_weak 198 = .ok (.goto 8, 3) := by decide +kernel
theorem dX10_weak_201 : decode cX10_weak 201 = .ok (.iload 8, 2) := by decide +kernel
theorem dX10_weak_203 : decode cX10_weak 203 = .ok (.iload 9, 2) := by decide +kernel
theorem dX10_weak_205 : decode cX10_weak 205 = .ok (.idiv, 1) := by decide +kernel
theorem dX10_weak_206 : decode cX10_weak 206 = .ok (.ireturn, 1) := by decide +kernel
theorem dX10_seed_0 : decode cX10_seed 0 = .ok (.aload_n 0, 1) := by decide +kernel
theorem dX10_seed_1 : decode cX10_seed 1 = .ok (.getfield 225, 3) := by decide +kernel
theorem dX10_seed_4 : decode cX10_seed 4 = .ok (.lstore_n 3, 1) := by decide +kernel
theorem dX10_seed_5 : decode cX10_seed 5 = .ok (.aload_n 0, 1) := by decide +kernel
theorem dX10_seed_6 : decode cX10_seed 6 = .ok (.lload_n 1, 1) := by decide +kernel
theorem dX10_seed_7 : decode cX10_seed 7 = .ok (.putfield 225, 3) := by decide +kernel
theorem dX10_seed_10 : decode cX10_seed 10 = .ok (.lload_n 3, 1) := by decide +kernel
theorem dX10_seed_11 : decode cX10_seed 11 = .ok (.lreturn, 1) := by decide +kernel
theorem dX10_evenings_0 : decode cX10_evenings 0 = .ok (.iload_n 1, 1) := by decide +kernel
theorem dX10_evenings_1 : decode cX10_evenings 1 = .ok (.i2l, 1) := by decide +kernel
theorem dX10_evenings_2 : decode cX10_evenings 2 = .ok (.lconst 1, 1) := by decide +kernel
theorem dX10_evenings_3 : decode cX10_evenings 3 = .ok (.ldc2_w 229, 3) := by decide +kernel
theorem dX10_evenings_6 : decode cX10_evenings 6 = .ok (.invokestatic 74, 3) := by decide +kernel
theorem dX10_evenings_9 : decode cX10_evenings 9 = .ok (.ifCond .ne 6, 3) := by decide +kernel
theorem dX10_evenings_12 : decode cX10_evenings 12 = .ok (.bipush (-2), 2) := by decide +kernel
theorem dX10_evenings_14 : decode cX10_evenings 14 = .ok (.ireturn, 1) := by decide +kernel
theorem dX10_evenings_15 : decode cX10_evenings 15 = .ok (.aload_n 0, 1) := by decide +kernel
theorem dX10_evenings_16 : decode cX10_evenings 16 = .ok (.getfield 117, 3) := by decide +kernel
theorem dX10_evenings_19 : decode cX10_evenings 19 = .ok (.istore_n 2, 1) := by decide +kernel
theorem dX10_evenings_20 : decode cX10_evenings 20 = .ok (.iconst 0, 1) := by decide +kernel
theorem dX10_evenings_21 : decode cX10_evenings 21 = .ok (.istore_n 3, 1) := by decide +kernel
theorem dX10_evenings_22 : decode cX10_evenings 22 = .ok (.iconst 0, 1) := by decide +kernel
theorem dX10_evenings_23 : decode cX10_evenings 23 = .ok (.istore 4, 2) := by decide +kernel
theorem dX10_evenings_25 : decode cX10_evenings 25 = .ok (.iload 4, 2) := by decide +kernel
theorem dX10_evenings_27 : decode cX10_evenings 27 = .ok (.iload_n 1, 1) := by decide +kernel
theorem dX10_evenings_28 : decode cX10_evenings 28 = .ok (.if_icmp .ge 77, 3) := by decide +kernel
theorem dX10_evenings_31 : decode cX10_evenings 31 = .ok (.aload_n 0, 1) := by decide +kernel
theorem dX10_evenings_32 : decode cX10_evenings 32 = .ok (.aload_n 0, 1) := by decide +kernel
theorem dX10_evenings_33 : decode cX10_evenings 33 = .ok (.getfield 225, 3) := by decide +kernel
theorem dX10_evenings_36 : decode cX10_evenings 36 = .ok (.ldc2_w 231, 3) := by decide +kernel
theorem dX10_evenings_39 : decode cX10_evenings 39 = .ok (.lmul, 1) := by decide +kernel
theorem dX10_evenings_40 : decode cX10_evenings 40 = .ok (.ldc2_w 233, 3) := by decide +kernel
theorem dX10_evenings_43 : decode cX10_evenings 43 = .ok (.ladd, 1) := by decide +kernel
theorem dX10_evenings_44 : decode cX10_evenings 44 = .ok (.putfield 225, 3) := by decide +kernel
theorem dX10_evenings_47 : decode cX10_evenings 47 = .ok (.aload_n 0, 1) := by decide +kernel
theorem dX10_evenings_48 : decode cX10_evenings 48 = .ok (.getfield 225, 3) := by decide +kernel
theorem dX10_evenings_51 : decode cX10_evenings 51 = .ok (.bipush 33, 2) := by decide +kernel
theorem dX10_evenings_53 : decode cX10_evenings 53 = .ok (.lushr, 1) := by decide +kernel
theorem dX10_evenings_54 : decode cX10_evenings 54 = .ok (.ldc2_w 235, 3) := by decide +kernel
theorem dX10_evenings_57 : decode cX10_evenings 57 = .ok (.lrem, 1) := by decide +kernel
theorem dX10_evenings_58 : decode cX10_evenings 58 = .ok (.l2i, 1) := by decide +kernel
theorem dX10_evenings_59 : decode cX10_evenings 59 = .ok (.istore 5, 2) := by decide +kernel
theorem dX10_evenings_61 : decode cX10_evenings 61 = .ok (.aload_n 0, 1) := by decide +kernel
theorem dX10_evenings_62 : decode cX10_evenings 62 = .ok (.iload 5, 2) := by decide +kernel
theorem dX10_evenings_64 : decode cX10_evenings 64 = .ok (.invokevirtual 147, 3) := by decide +kernel
theorem dX10_evenings_67 : decode cX10_evenings 67 = .ok (.ifCond .eq 19, 3) := by decide +kernel
theorem dX10_evenings_70 : decode cX10_evenings 70 = .ok (.aload_n 0, 1) := by decide +kernel
theorem dX10_evenings_71 : decode cX10_evenings 71 = .ok (.getfield 25, 3) := by decide +kernel
theorem dX10_evenings_74 : decode cX10_evenings 74 = .ok (.sipush 256, 3) := by decide +kernel
theorem dX10_evenings_77 : decode cX10_evenings 77 = .ok (.iload 5, 2) := by decide +kernel
theorem dX10_evenings_79 : decode cX10_evenings 79 = .ok (.imul, 1) := by decide +kernel
theorem dX10_evenings_80 : decode cX10_evenings 80 = .ok (.iload_n 2, 1) := by decide +kernel
theorem dX10_evenings_81 : decode cX10_evenings 81 = .ok (.iadd, 1) := by decide +kernel
theorem dX10_evenings_82 : decode cX10_evenings 82 = .ok (.iaload, 1) := by decide +kernel
theorem dX10_evenings_83 : decode cX10_evenings 83 = .ok (.goto 4, 3) := by decide +kernel
theorem dX10_evenings_86 : decode cX10_evenings 86 = .ok (.iload_n 2, 1) := by decide +kernel
theorem dX10_evenings_87 : decode cX10_evenings 87 = .ok (.istore_n 2, 1) := by decide +kernel
theorem dX10_evenings_88 : decode cX10_evenings 88 = .ok (.iload_n 3, 1) := by decide +kernel
theorem dX10_evenings_89 : decode cX10_evenings 89 = .ok (.aload_n 0, 1) := by decide +kernel
theorem dX10_evenings_90 : decode cX10_evenings 90 = .ok (.iload_n 2, 1) := by decide +kernel
theorem dX10_evenings_91 : decode cX10_evenings 91 = .ok (.invokevirtual 193, 3) := by decide +kernel
theorem dX10_evenings_94 : decode cX10_evenings 94 = .ok (.invokestatic 185, 3) := by decide +kernel
theorem dX10_evenings_97 : decode cX10_evenings 97 = .ok (.iadd, 1) := by decide +kernel
theorem dX10_evenings_98 : decode cX10_evenings 98 = .ok (.istore_n 3, 1) := by decide +kernel
theorem dX10_evenings_99 : decode cX10_evenings 99 = .ok (.iinc 4 1, 3) := by decide +kernel
theorem dX10_evenings_102 : decode cX10_evenings 102 = .ok (.goto (-77), 3) := by decide +kernel
theorem dX10_evenings_105 : decode cX10_evenings 105 = .ok (.iload_n 3, 1) := by decide +kernel
theorem dX10_evenings_106 : decode cX10_evenings 106 = .ok (.ireturn, 1) := by decide +kernel
theorem dX10_keep_0 : decode cX10_keep 0 = .ok (.iload_n 1, 1) := by decide +kernel
theorem dX10_keep_1 : decode cX10_keep 1 = .ok (.i2l, 1) := by decide +kernel
theorem dX10_keep_2 : decode cX10_keep 2 = .ok (.lconst 0, 1) := by decide +kernel
theorem dX10_keep_3 : decode cX10_keep 3 = .ok (.lconst 1, 1) := by decide +kernel
theorem dX10_keep_4 : decode cX10_keep 4 = .ok (.invokestatic 74, 3) := by decide +kernel
theorem dX10_keep_7 : decode cX10_keep 7 = .ok (.ifCond .ne 5, 3) := by decide +kernel
theorem dX10_keep_10 : decode cX10_keep 10 = .ok (.iconst (-1), 1) := by decide +kernel
theorem dX10_keep_11 : decode cX10_keep 11 = .ok (.ireturn, 1) := by decide +kernel
theorem dX10_keep_12 : decode cX10_keep 12 = .ok (.aload_n 0, 1) := by decide +kernel
theorem dX10_keep_13 : decode cX10_keep 13 = .ok (.getfield 61, 3) := by decide +kernel
theorem dX10_keep_16 : decode cX10_keep 16 = .ok (.iload_n 1, 1) := by decide +kernel
theorem dX10_keep_17 : decode cX10_keep 17 = .ok (.iconst 1, 1) := by decide +kernel
theorem dX10_keep_18 : decode cX10_keep 18 = .ok (.bastore, 1) := by decide +kernel
theorem dX10_keep_19 : decode cX10_keep 19 = .ok (.aload_n 0, 1) := by decide +kernel
theorem dX10_keep_20 : decode cX10_keep 20 = .ok (.getfield 65, 3) := by decide +kernel
theorem dX10_keep_23 : decode cX10_keep 23 = .ok (.iconst 3, 1) := by decide +kernel
theorem dX10_keep_24 : decode cX10_keep 24 = .ok (.iload_n 1, 1) := by decide +kernel
theorem dX10_keep_25 : decode cX10_keep 25 = .ok (.imul, 1) := by decide +kernel
theorem dX10_keep_26 : decode cX10_keep 26 = .ok (.aload_n 0, 1) := by decide +kernel
theorem dX10_keep_27 : decode cX10_keep 27 = .ok (.getfield 117, 3) := by decide +kernel
theorem dX10_keep_30 : decode cX10_keep 30 = .ok (.iastore, 1) := by decide +kernel
theorem dX10_keep_31 : decode cX10_keep 31 = .ok (.aload_n 0, 1) := by decide +kernel
theorem dX10_keep_32 : decode cX10_keep 32 = .ok (.getfield 65, 3) := by decide +kernel
theorem dX10_keep_35 : decode cX10_keep 35 = .ok (.iconst 3, 1) := by decide +kernel
theorem dX10_keep_36 : decode cX10_keep 36 = .ok (.iload_n 1, 1) := by decide +kernel
theorem dX10_keep_37 : decode cX10_keep 37 = .ok (.imul, 1) := by decide +kernel
theorem dX10_keep_38 : decode cX10_keep 38 = .ok (.iconst 1, 1) := by decide +kernel
theorem dX10_keep_39 : decode cX10_keep 39 = .ok (.iadd, 1) := by decide +kernel
theorem dX10_keep_40 : decode cX10_keep 40 = .ok (.aload_n 0, 1) := by decide +kernel
theorem dX10_keep_41 : decode cX10_keep 41 = .ok (.getfield 124, 3) := by decide +kernel
theorem dX10_keep_44 : decode cX10_keep 44 = .ok (.iastore, 1) := by decide +kernel
theorem dX10_keep_45 : decode cX10_keep 45 = .ok (.aload_n 0, 1) := by decide +kernel
theorem dX10_keep_46 : decode cX10_keep 46 = .ok (.getfield 65, 3) := by decide +kernel
theorem dX10_keep_49 : decode cX10_keep 49 = .ok (.iconst 3, 1) := by decide +kernel
theorem dX10_keep_50 : decode cX10_keep 50 = .ok (.iload_n 1, 1) := by decide +kernel
theorem dX10_keep_51 : decode cX10_keep 51 = .ok (.imul, 1) := by decide +kernel
theorem dX10_keep_52 : decode cX10_keep 52 = .ok (.iconst 2, 1) := by decide +kernel
theorem dX10_keep_53 : decode cX10_keep 53 = .ok (.iadd, 1) := by decide +kernel
theorem dX10_keep_54 : decode cX10_keep 54 = .ok (.aload_n 0, 1) := by decide +kernel
theorem dX10_keep_55 : decode cX10_keep 55 = .ok (.getfield 127, 3) := by decide +kernel
theorem dX10_keep_58 : decode cX10_keep 58 = .ok (.iastore, 1) := by decide +kernel
theorem dX10_keep_59 : decode cX10_keep 59 = .ok (.aload_n 0, 1) := by decide +kernel
theorem dX10_keep_60 : decode cX10_keep 60 = .ok (.getfield 127, 3) := by decide +kernel
theorem dX10_keep_63 : decode cX10_keep 63 = .ok (.ireturn, 1) := by decide +kernel
theorem dX10_again_0 : decode cX10_again 0 = .ok (.iload_n 1, 1) := by decide +kernel
theorem dX10_again_1 : decode cX10_again 1 = .ok (.i2l, 1) := by decide +kernel
theorem dX10_again_2 : decode cX10_again 2 = .ok (.lconst 0, 1) := by decide +kernel
theorem dX10_again_3 : decode cX10_again 3 = .ok (.lconst 1, 1) := by decide +kernel
theorem dX10_again_4 : decode cX10_again 4 = .ok (.invokestatic 74, 3) := by decide +kernel
theorem dX10_again_7 : decode cX10_again 7 = .ok (.ifCond .ne 5, 3) := by decide +kernel
theorem dX10_again_10 : decode cX10_again 10 = .ok (.iconst (-1), 1) := by decide +kernel
theorem dX10_again_11 : decode cX10_again 11 = .ok (.ireturn, 1) := by decide +kernel
theorem dX10_again_12 : decode cX10_again 12 = .ok (.aload_n 0, 1) := by decide +kernel
theorem dX10_again_13 : decode cX10_again 13 = .ok (.getfield 61, 3) := by decide +kernel
theorem dX10_again_16 : decode cX10_again 16 = .ok (.iload_n 1, 1) := by decide +kernel
theorem dX10_again_17 : decode cX10_again 17 = .ok (.baload, 1) := by decide +kernel
theorem dX10_again_18 : decode cX10_again 18 = .ok (.ifCond .ne 6, 3) := by decide +kernel
theorem dX10_again_21 : decode cX10_again 21 = .ok (.bipush (-3), 2) := by decide +kernel
theorem dX10_again_23 : decode cX10_again 23 = .ok (.ireturn, 1) := by decide +kernel
theorem dX10_again_24 : decode cX10_again 24 = .ok (.aload_n 0, 1) := by decide +kernel
theorem dX10_again_25 : decode cX10_again 25 = .ok (.aload_n 0, 1) := by decide +kernel
theorem dX10_again_26 : decode cX10_again 26 = .ok (.getfield 65, 3) := by decide +kernel
theorem dX10_again_29 : decode cX10_again 29 = .ok (.iconst 3, 1) := by decide +kernel
theorem dX10_again_30 : decode cX10_again 30 = .ok (.iload_n 1, 1) := by decide +kernel
theorem dX10_again_31 : decode cX10_again 31 = .ok (.imul, 1) := by decide +kernel
theorem dX10_again_32 : decode cX10_again 32 = .ok (.iaload, 1) := by decide +kernel
theorem dX10_again_33 : decode cX10_again 33 = .ok (.putfield 117, 3) := by decide +kernel
theorem dX10_again_36 : decode cX10_again 36 = .ok (.aload_n 0, 1) := by decide +kernel
theorem dX10_again_37 : decode cX10_again 37 = .ok (.aload_n 0, 1) := by decide +kernel
theorem dX10_again_38 : decode cX10_again 38 = .ok (.getfield 65, 3) := by decide +kernel
theorem dX10_again_41 : decode cX10_again 41 = .ok (.iconst 3, 1) := by decide +kernel
theorem dX10_again_42 : decode cX10_again 42 = .ok (.iload_n 1, 1) := by decide +kernel
theorem dX10_again_43 : decode cX10_again 43 = .ok (.imul, 1) := by decide +kernel
theorem dX10_again_44 : decode cX10_again 44 = .ok (.iconst 1, 1) := by decide +kernel
theorem dX10_again_45 : decode cX10_again 45 = .ok (.iadd, 1) := by decide +kernel
theorem dX10_again_46 : decode cX10_again 46 = .ok (.iaload, 1) := by decide +kernel
theorem dX10_again_47 : decode cX10_again 47 = .ok (.putfield 124, 3) := by decide +kernel
theorem dX10_again_50 : decode cX10_again 50 = .ok (.aload_n 0, 1) := by decide +kernel
theorem dX10_again_51 : decode cX10_again 51 = .ok (.aload_n 0, 1) := by decide +kernel
theorem dX10_again_52 : decode cX10_again 52 = .ok (.getfield 65, 3) := by decide +kernel
theorem dX10_again_55 : decode cX10_again 55 = .ok (.iconst 3, 1) := by decide +kernel
theorem dX10_again_56 : decode cX10_again 56 = .ok (.iload_n 1, 1) := by decide +kernel
theorem dX10_again_57 : decode cX10_again 57 = .ok (.imul, 1) := by decide +kernel
theorem dX10_again_58 : decode cX10_again 58 = .ok (.iconst 2, 1) := by decide +kernel
theorem dX10_again_59 : decode cX10_again 59 = .ok (.iadd, 1) := by decide +kernel
theorem dX10_again_60 : decode cX10_again 60 = .ok (.iaload, 1) := by decide +kernel
theorem dX10_again_61 : decode cX10_again 61 = .ok (.putfield 127, 3) := by decide +kernel
theorem dX10_again_64 : decode cX10_again 64 = .ok (.aload_n 0, 1) := by decide +kernel
theorem dX10_again_65 : decode cX10_again 65 = .ok (.iconst 0, 1) := by decide +kernel
theorem dX10_again_66 : decode cX10_again 66 = .ok (.putfield 130, 3) := by decide +kernel
theorem dX10_again_69 : decode cX10_again 69 = .ok (.aload_n 0, 1) := by decide +kernel
theorem dX10_again_70 : decode cX10_again 70 = .ok (.getfield 127, 3) := by decide +kernel
theorem dX10_again_73 : decode cX10_again 73 = .ok (.ireturn, 1) := by decide +kernel
theorem dX10_count_0 : decode cX10_count 0 = .ok (.iload_n 1, 1) := by decide +kernel
theorem dX10_count_1 : decode cX10_count 1 = .ok (.tableswitch 108 0 8 #[51, 56, 61, 66, 75, 84, 93, 98, 103], 51) := by decide +kernel
theorem dX10_count_52 : decode cX10_count 52 = .ok (.aload_n 0, 1) := by decide +kernel
theorem dX10_count_53 : decode cX10_count 53 = .ok (.getfield 78, 3) := by decide +kernel
theorem dX10_count_56 : decode cX10_count 56 = .ok (.ireturn, 1) := by decide +kernel
theorem dX10_count_57 : decode cX10_count 57 = .ok (.aload_n 0, 1) := by decide +kernel
theorem dX10_count_58 : decode cX10_count 58 = .ok (.getfield 111, 3) := by decide +kernel
theorem dX10_count_61 : decode cX10_count 61 = .ok (.ireturn, 1) := by decide +kernel
theorem dX10_count_62 : decode cX10_count 62 = .ok (.aload_n 0, 1) := by decide +kernel
theorem dX10_count_63 : decode cX10_count 63 = .ok (.getfield 114, 3) := by decide +kernel
theorem dX10_count_66 : decode cX10_count 66 = .ok (.ireturn, 1) := by decide +kernel
theorem dX10_count_67 : decode cX10_count 67 = .ok (.aload_n 0, 1) := by decide +kernel
theorem dX10_count_68 : decode cX10_count 68 = .ok (.aload_n 0, 1) := by decide +kernel
theorem dX10_count_69 : decode cX10_count 69 = .ok (.getfield 117, 3) := by decide +kernel
theorem dX10_count_72 : decode cX10_count 72 = .ok (.invokevirtual 156, 3) := by decide +kernel
theorem dX10_count_75 : decode cX10_count 75 = .ok (.ireturn, 1) := by decide +kernel
theorem dX10_count_76 : decode cX10_count 76 = .ok (.aload_n 0, 1) := by decide +kernel
theorem dX10_count_77 : decode cX10_count 77 = .ok (.aload_n 0, 1) := by decide +kernel
theorem dX10_count_78 : decode cX10_count 78 = .ok (.getfield 124, 3) := by decide +kernel
theorem dX10_count_81 : decode cX10_count 81 = .ok (.invokevirtual 156, 3) := by decide +kernel
theorem dX10_count_84 : decode cX10_count 84 = .ok (.ireturn, 1) := by decide +kernel
theorem dX10_count_85 : decode cX10_count 85 = .ok (.aload_n 0, 1) := by decide +kernel
theorem dX10_count_86 : decode cX10_count 86 = .ok (.aload_n 0, 1) := by decide +kernel
theorem dX10_count_87 : decode cX10_count 87 = .ok (.getfield 117, 3) := by decide +kernel
theorem dX10_count_90 : decode cX10_count 90 = .ok (.invokevirtual 193, 3) := by decide +kernel
theorem dX10_count_93 : decode cX10_count 93 = .ok (.ireturn, 1) := by decide +kernel
theorem dX10_count_94 : decode cX10_count 94 = .ok (.aload_n 0, 1) := by decide +kernel
theorem dX10_count_95 : decode cX10_count 95 = .ok (.getfield 127, 3) := by decide +kernel
theorem dX10_count_98 : decode cX10_count 98 = .ok (.ireturn, 1) := by decide +kernel
theorem dX10_count_99 : decode cX10_count 99 = .ok (.aload_n 0, 1) := by decide +kernel
theorem dX10_count_100 : decode cX10_count 100 = .ok (.getfield 130, 3) := by decide +kernel
theorem dX10_count_103 : decode cX10_count 103 = .ok (.ireturn, 1) := by decide +kernel
theorem dX10_count_104 : decode cX10_count 104 = .ok (.aload_n 0, 1) := by decide +kernel
theorem dX10_count_105 : decode cX10_count 105 = .ok (.getfield 190, 3) := by decide +kernel
theorem dX10_count_108 : decode cX10_count 108 = .ok (.ireturn, 1) := by decide +kernel
theorem dX10_count_109 : decode cX10_count 109 = .ok (.bipush (-2), 2) := by decide +kernel
theorem dX10_count_111 : decode cX10_count 111 = .ok (.ireturn, 1) := by decide +kernel
theorem dJ6_bitCount_0f7a4_0 : decode cJ6_bitCount_0f7a4 0 = .ok (.iload_n 0, 1) := by decide +kernel
theorem dJ6_bitCount_0f7a4_1 : decode cJ6_bitCount_0f7a4 1 = .ok (.iload_n 0, 1) := by decide +kernel
theorem dJ6_bitCount_0f7a4_2 : decode cJ6_bitCount_0f7a4 2 = .ok (.iconst 1, 1) := by decide +kernel
theorem dJ6_bitCount_0f7a4_3 : decode cJ6_bitCount_0f7a4 3 = .ok (.iushr, 1) := by decide +kernel
theorem dJ6_bitCount_0f7a4_4 : decode cJ6_bitCount_0f7a4 4 = .ok (.ldc_w 265, 3) := by decide +kernel
theorem dJ6_bitCount_0f7a4_7 : decode cJ6_bitCount_0f7a4 7 = .ok (.iand, 1) := by decide +kernel
theorem dJ6_bitCount_0f7a4_8 : decode cJ6_bitCount_0f7a4 8 = .ok (.isub, 1) := by decide +kernel
theorem dJ6_bitCount_0f7a4_9 : decode cJ6_bitCount_0f7a4 9 = .ok (.istore_n 0, 1) := by decide +kernel
theorem dJ6_bitCount_0f7a4_10 : decode cJ6_bitCount_0f7a4 10 = .ok (.iload_n 0, 1) := by decide +kernel
theorem dJ6_bitCount_0f7a4_11 : decode cJ6_bitCount_0f7a4 11 = .ok (.ldc_w 266, 3) := by decide +kernel
theorem dJ6_bitCount_0f7a4_14 : decode cJ6_bitCount_0f7a4 14 = .ok (.iand, 1) := by decide +kernel
theorem dJ6_bitCount_0f7a4_15 : decode cJ6_bitCount_0f7a4 15 = .ok (.iload_n 0, 1) := by decide +kernel
theorem dJ6_bitCount_0f7a4_16 : decode cJ6_bitCount_0f7a4 16 = .ok (.iconst 2, 1) := by decide +kernel
theorem dJ6_bitCount_0f7a4_17 : decode cJ6_bitCount_0f7a4 17 = .ok (.iushr, 1) := by decide +kernel
theorem dJ6_bitCount_0f7a4_18 : decode cJ6_bitCount_0f7a4 18 = .ok (.ldc_w 266, 3) := by decide +kernel
theorem dJ6_bitCount_0f7a4_21 : decode cJ6_bitCount_0f7a4 21 = .ok (.iand, 1) := by decide +kernel
theorem dJ6_bitCount_0f7a4_22 : decode cJ6_bitCount_0f7a4 22 = .ok (.iadd, 1) := by decide +kernel
theorem dJ6_bitCount_0f7a4_23 : decode cJ6_bitCount_0f7a4 23 = .ok (.istore_n 0, 1) := by decide +kernel
theorem dJ6_bitCount_0f7a4_24 : decode cJ6_bitCount_0f7a4 24 = .ok (.iload_n 0, 1) := by decide +kernel
theorem dJ6_bitCount_0f7a4_25 : decode cJ6_bitCount_0f7a4 25 = .ok (.iload_n 0, 1) := by decide +kernel
theorem dJ6_bitCount_0f7a4_26 : decode cJ6_bitCount_0f7a4 26 = .ok (.iconst 4, 1) := by decide +kernel
theorem dJ6_bitCount_0f7a4_27 : decode cJ6_bitCount_0f7a4 27 = .ok (.iushr, 1) := by decide +kernel
theorem dJ6_bitCount_0f7a4_28 : decode cJ6_bitCount_0f7a4 28 = .ok (.iadd, 1) := by decide +kernel
theorem dJ6_bitCount_0f7a4_29 : decode cJ6_bitCount_0f7a4 29 = .ok (.ldc_w 267, 3) := by decide +kernel
theorem dJ6_bitCount_0f7a4_32 : decode cJ6_bitCount_0f7a4 32 = .ok (.iand, 1) := by decide +kernel
theorem dJ6_bitCount_0f7a4_33 : decode cJ6_bitCount_0f7a4 33 = .ok (.istore_n 0, 1) := by decide +kernel
theorem dJ6_bitCount_0f7a4_34 : decode cJ6_bitCount_0f7a4 34 = .ok (.iload_n 0, 1) := by decide +kernel
theorem dJ6_bitCount_0f7a4_35 : decode cJ6_bitCount_0f7a4 35 = .ok (.iload_n 0, 1) := by decide +kernel
theorem dJ6_bitCount_0f7a4_36 : decode cJ6_bitCount_0f7a4 36 = .ok (.bipush 8, 2) := by decide +kernel
theorem dJ6_bitCount_0f7a4_38 : decode cJ6_bitCount_0f7a4 38 = .ok (.iushr, 1) := by decide +kernel
theorem dJ6_bitCount_0f7a4_39 : decode cJ6_bitCount_0f7a4 39 = .ok (.iadd, 1) := by decide +kernel
theorem dJ6_bitCount_0f7a4_40 : decode cJ6_bitCount_0f7a4 40 = .ok (.istore_n 0, 1) := by decide +kernel
theorem dJ6_bitCount_0f7a4_41 : decode cJ6_bitCount_0f7a4 41 = .ok (.iload_n 0, 1) := by decide +kernel
theorem dJ6_bitCount_0f7a4_42 : decode cJ6_bitCount_0f7a4 42 = .ok (.iload_n 0, 1) := by decide +kernel
theorem dJ6_bitCount_0f7a4_43 : decode cJ6_bitCount_0f7a4 43 = .ok (.bipush 16, 2) := by decide +kernel
theorem dJ6_bitCount_0f7a4_45 : decode cJ6_bitCount_0f7a4 45 = .ok (.iushr, 1) := by decide +kernel
theorem dJ6_bitCount_0f7a4_46 : decode cJ6_bitCount_0f7a4 46 = .ok (.iadd, 1) := by decide +kernel
theorem dJ6_bitCount_0f7a4_47 : decode cJ6_bitCount_0f7a4 47 = .ok (.istore_n 0, 1) := by decide +kernel
theorem dJ6_bitCount_0f7a4_48 : decode cJ6_bitCount_0f7a4 48 = .ok (.iload_n 0, 1) := by decide +kernel
theorem dJ6_bitCount_0f7a4_49 : decode cJ6_bitCount_0f7a4 49 = .ok (.bipush 63, 2) := by decide +kernel
theorem dJ6_bitCount_0f7a4_51 : decode cJ6_bitCount_0f7a4 51 = .ok (.iand, 1) := by decide +kernel
theorem dJ6_bitCount_0f7a4_52 : decode cJ6_bitCount_0f7a4 52 = .ok (.ireturn, 1) := by decide +kernel
theorem dJ9_abs_0f7a4_0 : decode cJ9_abs_0f7a4 0 = .ok (.iload_n 0, 1) := by decide +kernel
theorem dJ9_abs_0f7a4_1 : decode cJ9_abs_0f7a4 1 = .ok (.ifCond .ge 8, 3) := by decide +kernel
theorem dJ9_abs_0f7a4_4 : decode cJ9_abs_0f7a4 4 = .ok (.iload_n 0, 1) := by decide +kernel
theorem dJ9_abs_0f7a4_5 : decode cJ9_abs_0f7a4 5 = .ok (.ineg, 1) := by decide +kernel
theorem dJ9_abs_0f7a4_6 : decode cJ9_abs_0f7a4 6 = .ok (.goto 4, 3) := by decide +kernel
theorem dJ9_abs_0f7a4_9 : decode cJ9_abs_0f7a4 9 = .ok (.iload_n 0, 1) := by decide +kernel
theorem dJ9_abs_0f7a4_10 : decode cJ9_abs_0f7a4 10 = .ok (.ireturn, 1) := by decide +kernel
theorem dJ9_max_7cf53_0 : decode cJ9_max_7cf53 0 = .ok (.iload_n 0, 1) := by decide +kernel
theorem dJ9_max_7cf53_1 : decode cJ9_max_7cf53 1 = .ok (.iload_n 1, 1) := by decide +kernel
theorem dJ9_max_7cf53_2 : decode cJ9_max_7cf53 2 = .ok (.if_icmp .lt 7, 3) := by decide +kernel
theorem dJ9_max_7cf53_5 : decode cJ9_max_7cf53 5 = .ok (.iload_n 0, 1) := by decide +kernel
theorem dJ9_max_7cf53_6 : decode cJ9_max_7cf53 6 = .ok (.goto 4, 3) := by decide +kernel
theorem dJ9_max_7cf53_9 : decode cJ9_max_7cf53 9 = .ok (.iload_n 1, 1) := by decide +kernel
theorem dJ9_max_7cf53_10 : decode cJ9_max_7cf53 10 = .ok (.ireturn, 1) := by decide +kernel
theorem dJ7_fill_53178_0 : decode cJ7_fill_53178 0 = .ok (.iconst 0, 1) := by decide +kernel
theorem dJ7_fill_53178_1 : decode cJ7_fill_53178 1 = .ok (.istore_n 2, 1) := by decide +kernel
theorem dJ7_fill_53178_2 : decode cJ7_fill_53178 2 = .ok (.aload_n 0, 1) := by decide +kernel
theorem dJ7_fill_53178_3 : decode cJ7_fill_53178 3 = .ok (.arraylength, 1) := by decide +kernel
theorem dJ7_fill_53178_4 : decode cJ7_fill_53178 4 = .ok (.istore_n 3, 1) := by decide +kernel
theorem dJ7_fill_53178_5 : decode cJ7_fill_53178 5 = .ok (.iload_n 2, 1) := by decide +kernel
theorem dJ7_fill_53178_6 : decode cJ7_fill_53178 6 = .ok (.iload_n 3, 1) := by decide +kernel
theorem dJ7_fill_53178_7 : decode cJ7_fill_53178 7 = .ok (.if_icmp .ge 13, 3) := by decide +kernel
theorem dJ7_fill_53178_10 : decode cJ7_fill_53178 10 = .ok (.aload_n 0, 1) := by decide +kernel
theorem dJ7_fill_53178_11 : decode cJ7_fill_53178 11 = .ok (.iload_n 2, 1) := by decide +kernel
theorem dJ7_fill_53178_12 : decode cJ7_fill_53178 12 = .ok (.iload_n 1, 1) := by decide +kernel
theorem dJ7_fill_53178_13 : decode cJ7_fill_53178 13 = .ok (.iastore, 1) := by decide +kernel
theorem dJ7_fill_53178_14 : decode cJ7_fill_53178 14 = .ok (.iinc 2 1, 3) := by decide +kernel
theorem dJ7_fill_53178_17 : decode cJ7_fill_53178 17 = .ok (.goto (-12), 3) := by decide +kernel
theorem dJ7_fill_53178_20 : decode cJ7_fill_53178 20 = .ok (.return_, 1) := by decide +kernel
theorem dL_law_0 : decode cL_law 0 = .ok (.new 7, 3) := by decide +kernel
theorem dL_law_3 : decode cL_law 3 = .ok (.dup, 1) := by decide +kernel
theorem dL_law_4 : decode cL_law 4 = .ok (.invokespecial 9, 3) := by decide +kernel
theorem dL_law_7 : decode cL_law 7 = .ok (.astore_n 1, 1) := by decide +kernel
theorem dL_law_8 : decode cL_law 8 = .ok (.new 10, 3) := by decide +kernel
theorem dL_law_11 : decode cL_law 11 = .ok (.dup, 1) := by decide +kernel
theorem dL_law_12 : decode cL_law 12 = .ok (.invokespecial 12, 3) := by decide +kernel
theorem dL_law_15 : decode cL_law 15 = .ok (.astore_n 2, 1) := by decide +kernel
theorem dL_law_16 : decode cL_law 16 = .ok (.iconst 0, 1) := by decide +kernel
theorem dL_law_17 : decode cL_law 17 = .ok (.istore_n 3, 1) := by decide +kernel
theorem dL_law_18 : decode cL_law 18 = .ok (.iload_n 3, 1) := by decide +kernel
theorem dL_law_19 : decode cL_law 19 = .ok (.aload_n 0, 1) := by decide +kernel
theorem dL_law_20 : decode cL_law 20 = .ok (.arraylength, 1) := by decide +kernel
theorem dL_law_21 : decode cL_law 21 = .ok (.bipush 6, 2) := by decide +kernel
theorem dL_law_23 : decode cL_law 23 = .ok (.isub, 1) := by decide +kernel
theorem dL_law_24 : decode cL_law 24 = .ok (.if_icmp .gt 1071, 3) := by decide +kernel
theorem dL_law_27 : decode cL_law 27 = .ok (.aload_n 0, 1) := by decide +kernel
theorem dL_law_28 : decode cL_law 28 = .ok (.iload_n 3, 1) := by decide +kernel
theorem dL_law_29 : decode cL_law 29 = .ok (.iaload, 1) := by decide +kernel
theorem dL_law_30 : decode cL_law 30 = .ok (.bipush 31, 2) := by decide +kernel
theorem dL_law_32 : decode cL_law 32 = .ok (.iand, 1) := by decide +kernel
theorem dL_law_33 : decode cL_law 33 = .ok (.tableswitch 1056 0 29 #[135, 158, 171, 184, 197, 230, 263, 286, 309, 332, 345, 358, 391, 404, 453, 486, 535, 558, 591, 634, 647, 670, 709, 768, 831, 910, 964, 987, 1010, 1033], 135) := by decide +kernel
theorem dL_law_168 : decode cL_law 168 = .ok (.aload_n 1, 1) := by decide +kernel
theorem dL_law_169 : decode cL_law 169 = .ok (.aload_n 0, 1) := by decide +kernel
theorem dL_law_170 : decode cL_law 170 = .ok (.iload_n 3, 1) := by decide +kernel
theorem dL_law_171 : decode cL_law 171 = .ok (.iconst 1, 1) := by decide +kernel
theorem dL_law_172 : decode cL_law 172 = .ok (.iadd, 1) := by decide +kernel
theorem dL_law_173 : decode cL_law 173 = .ok (.iaload, 1) := by decide +kernel
theorem dL_law_174 : decode cL_law 174 = .ok (.invokevirtual 13, 3) := by decide +kernel
theorem dL_law_177 : decode cL_law 177 = .ok (.aload_n 2, 1) := by decide +kernel
theorem dL_law_178 : decode cL_law 178 = .ok (.aload_n 0, 1) := by decide +kernel
theorem dL_law_179 : decode cL_law 179 = .ok (.iload_n 3, 1) := by decide +kernel
theorem dL_law_180 : decode cL_law 180 = .ok (.iconst 1, 1) := by decide +kernel
theorem dL_law_181 : decode cL_law 181 = .ok (.iadd, 1) := by decide +kernel
theorem dL_law_182 : decode cL_law 182 = .ok (.iaload, 1) := by decide +kernel
theorem dL_law_183 : decode cL_law 183 = .ok (.invokevirtual 17, 3) := by decide +kernel
theorem dL_law_186 : decode cL_law 186 = .ok (.if_icmp .eq 903, 3) := by decide +kernel
theorem dL_law_189 : decode cL_law 189 = .ok (.iconst 0, 1) := by decide +kernel
theorem dL_law_190 : decode cL_law 190 = .ok (.ireturn, 1) := by decide +kernel
theorem dL_law_191 : decode cL_law 191 = .ok (.aload_n 1, 1) := by decide +kernel
theorem dL_law_192 : decode cL_law 192 = .ok (.invokevirtual 18, 3) := by decide +kernel
theorem dL_law_195 : decode cL_law 195 = .ok (.aload_n 2, 1) := by decide +kernel
theorem dL_law_196 : decode cL_law 196 = .ok (.invokevirtual 22, 3) := by decide +kernel
theorem dL_law_199 : decode cL_law 199 = .ok (.if_icmp .eq 890, 3) := by decide +kernel
theorem dL_law_202 : decode cL_law 202 = .ok (.iconst 0, 1) := by decide +kernel
theorem dL_law_203 : decode cL_law 203 = .ok (.ireturn, 1) := by decide +kernel
theorem dL_law_204 : decode cL_law 204 = .ok (.aload_n 1, 1) := by decide +kernel
theorem dL_law_205 : decode cL_law 205 = .ok (.invokevirtual 23, 3) := by decide +kernel
theorem dL_law_208 : decode cL_law 208 = .ok (.aload_n 2, 1) := by decide +kernel
theorem dL_law_209 : decode cL_law 209 = .ok (.invokevirtual 26, 3) := by decide +kernel
theorem dL_law_212 : decode cL_law 212 = .ok (.if_icmp .eq 877, 3) := by decide +kernel
theorem dL_law_215 : decode cL_law 215 = .ok (.iconst 0, 1) := by decide +kernel
theorem dL_law_216 : decode cL_law 216 = .ok (.ireturn, 1) := by decide +kernel
theorem dL_law_217 : decode cL_law 217 = .ok (.aload_n 1, 1) := by decide +kernel
theorem dL_law_218 : decode cL_law 218 = .ok (.invokevirtual 27, 3) := by decide +kernel
theorem dL_law_221 : decode cL_law 221 = .ok (.aload_n 2, 1) := by decide +kernel
theorem dL_law_222 : decode cL_law 222 = .ok (.invokevirtual 30, 3) := by decide +kernel
theorem dL_law_225 : decode cL_law 225 = .ok (.if_icmp .eq 864, 3) := by decide +kernel
theorem dL_law_228 : decode cL_law 228 = .ok (.iconst 0, 1) := by decide +kernel
theorem dL_law_229 : decode cL_law 229 = .ok (.ireturn, 1) := by decide +kernel
theorem dL_law_230 : decode cL_law 230 = .ok (.aload_n 1, 1) := by decide +kernel
theorem dL_law_231 : decode cL_law 231 = .ok (.aload_n 0, 1) := by decide +kernel
theorem dL_law_232 : decode cL_law 232 = .ok (.iload_n 3, 1) := by decide +kernel
theorem dL_law_233 : decode cL_law 233 = .ok (.iconst 1, 1) := by decide +kernel
theorem dL_law_234 : decode cL_law 234 = .ok (.iadd, 1) := by decide +kernel
theorem dL_law_235 : decode cL_law 235 = .ok (.iaload, 1) := by decide +kernel
theorem dL_law_236 : decode cL_law 236 = .ok (.aload_n 0, 1) := by decide +kernel
theorem dL_law_237 : decode cL_law 237 = .ok (.iload_n 3, 1) := by decide +kernel
theorem dL_law_238 : decode cL_law 238 = .ok (.iconst 2, 1) := by decide +kernel
theorem dL_law_239 : decode cL_law 239 = .ok (.iadd, 1) := by decide +kernel
theorem dL_law_240 : decode cL_law 240 = .ok (.iaload, 1) := by decide +kernel
theorem dL_law_241 : decode cL_law 241 = .ok (.invokevirtual 31, 3) := by decide +kernel
theorem dL_law_244 : decode cL_law 244 = .ok (.aload_n 2, 1) := by decide +kernel
theorem dL_law_245 : decode cL_law 245 = .ok (.aload_n 0, 1) := by decide +kernel
theorem dL_law_246 : decode cL_law 246 = .ok (.iload_n 3, 1) := by decide +kernel
theorem dL_law_247 : decode cL_law 247 = .ok (.iconst 1, 1) := by decide +kernel
theorem dL_law_248 : decode cL_law 248 = .ok (.iadd, 1) := by decide +kernel
theorem dL_law_249 : decode cL_law 249 = .ok (.iaload, 1) := by decide +kernel
theorem dL_law_250 : decode cL_law 250 = .ok (.aload_n 0, 1) := by decide +kernel
theorem dL_law_251 : decode cL_law 251 = .ok (.iload_n 3, 1) := by decide +kernel
theorem dL_law_252 : decode cL_law 252 = .ok (.iconst 2, 1) := by decide +kernel
theorem dL_law_253 : decode cL_law 253 = .ok (.iadd, 1) := by decide +kernel
theorem dL_law_254 : decode cL_law 254 = .ok (.iaload, 1) := by decide +kernel
theorem dL_law_255 : decode cL_law 255 = .ok (.invokevirtual 35, 3) := by decide +kernel
theorem dL_law_258 : decode cL_law 258 = .ok (.if_icmp .eq 831, 3) := by decide +kernel
theorem dL_law_261 : decode cL_law 261 = .ok (.iconst 0, 1) := by decide +kernel
theorem dL_law_262 : decode cL_law 262 = .ok (.ireturn, 1) := by decide +kernel
theorem dL_law_263 : decode cL_law 263 = .ok (.aload_n 1, 1) := by decide +kernel
theorem dL_law_264 : decode cL_law 264 = .ok (.aload_n 0, 1) := by decide +kernel
theorem dL_law_265 : decode cL_law 265 = .ok (.iload_n 3, 1) := by decide +kernel
theorem dL_law_266 : decode cL_law 266 = .ok (.iconst 1, 1) := by decide +kernel
theorem dL_law_267 : decode cL_law 267 = .ok (.iadd, 1) := by decide +kernel
theorem dL_law_268 : decode cL_law 268 = .ok (.iaload, 1) := by decide +kernel
theorem dL_law_269 : decode cL_law 269 = .ok (.aload_n 0, 1) := by decide +kernel
theorem dL_law_270 : decode cL_law 270 = .ok (.iload_n 3, 1) := by decide +kernel
theorem dL_law_271 : decode cL_law 271 = .ok (.iconst 2, 1) := by decide +kernel
theorem dL_law_272 : decode cL_law 272 = .ok (.iadd, 1) := by decide +kernel
theorem dL_law_273 : decode cL_law 273 = .ok (.iaload, 1) := by decide +kernel
theorem dL_law_274 : decode cL_law 274 = .ok (.invokevirtual 36, 3) := by decide +kernel
theorem dL_law_277 : decode cL_law 277 = .ok (.aload_n 2, 1) := by decide +kernel
theorem dL_law_278 : decode cL_law 278 = .ok (.aload_n 0, 1) := by decide +kernel
theorem dL_law_279 : decode cL_law 279 = .ok (.iload_n 3, 1) := by decide +kernel
theorem dL_law_280 : decode cL_law 280 = .ok (.iconst 1, 1) := by decide +kernel
theorem dL_law_281 : decode cL_law 281 = .ok (.iadd, 1) := by decide +kernel
theorem dL_law_282 : decode cL_law 282 = .ok (.iaload, 1) := by decide +kernel
theorem dL_law_283 : decode cL_law 283 = .ok (.aload_n 0, 1) := by decide +kernel
theorem dL_law_284 : decode cL_law 284 = .ok (.iload_n 3, 1) := by decide +kernel
theorem dL_law_285 : decode cL_law 285 = .ok (.iconst 2, 1) := by decide +kernel
theorem dL_law_286 : decode cL_law 286 = .ok (.iadd, 1) := by decide +kernel
theorem dL_law_287 : decode cL_law 287 = .ok (.iaload, 1) := by decide +kernel
theorem dL_law_288 : decode cL_law 288 = .ok (.invokevirtual 39, 3) := by decide +kernel
theorem dL_law_291 : decode cL_law 291 = .ok (.if_icmp .eq 798, 3) := by decide +kernel
theorem dL_law_294 : decode cL_law 294 = .ok (.iconst 0, 1) := by decide +kernel
theorem dL_law_295 : decode cL_law 295 = .ok (.ireturn, 1) := by decide +kernel
theorem dL_law_296 : decode cL_law 296 = .ok (.aload_n 1, 1) := by decide +kernel
theorem dL_law_297 : decode cL_law 297 = .ok (.aload_n 0, 1) := by decide +kernel
theorem dL_law_298 : decode cL_law 298 = .ok (.iload_n 3, 1) := by decide +kernel
theorem dL_law_299 : decode cL_law 299 = .ok (.iconst 1, 1) := by decide +kernel
theorem dL_law_300 : decode cL_law 300 = .ok (.iadd, 1) := by decide +kernel
theorem dL_law_301 : decode cL_law 301 = .ok (.iaload, 1) := by decide +kernel
theorem dL_law_302 : decode cL_law 302 = .ok (.invokevirtual 40, 3) := by decide +kernel
theorem dL_law_305 : decode cL_law 305 = .ok (.aload_n 2, 1) := by decide +kernel
theorem dL_law_306 : decode cL_law 306 = .ok (.aload_n 0, 1) := by decide +kernel
theorem dL_law_307 : decode cL_law 307 = .ok (.iload_n 3, 1) := by decide +kernel
theorem dL_law_308 : decode cL_law 308 = .ok (.iconst 1, 1) := by decide +kernel
theorem dL_law_309 : decode cL_law 309 = .ok (.iadd, 1) := by decide +kernel
theorem dL_law_310 : decode cL_law 310 = .ok (.iaload, 1) := by decide +kernel
theorem dL_law_311 : decode cL_law 311 = .ok (.invokevirtual 43, 3) := by decide +kernel
theorem dL_law_314 : decode cL_law 314 = .ok (.if_icmp .eq 775, 3) := by decide +kernel
theorem dL_law_317 : decode cL_law 317 = .ok (.iconst 0, 1) := by decide +kernel
theorem dL_law_318 : decode cL_law 318 = .ok (.ireturn, 1) := by decide +kernel
theorem dL_law_319 : decode cL_law 319 = .ok (.aload_n 1, 1) := by decide +kernel
theorem dL_law_320 : decode cL_law 320 = .ok (.aload_n 0, 1) := by decide +kernel
theorem dL_law_321 : decode cL_law 321 = .ok (.iload_n 3, 1) := by decide +kernel
theorem dL_law_322 : decode cL_law 322 = .ok (.iconst 1, 1) := by decide +kernel
theorem dL_law_323 : decode cL_law 323 = .ok (.iadd, 1) := by decide +kernel
theorem dL_law_324 : decode cL_law 324 = .ok (.iaload, 1) := by decide +kernel
theorem dL_law_325 : decode cL_law 325 = .ok (.invokevirtual 44, 3) := by decide +kernel
theorem dL_law_328 : decode cL_law 328 = .ok (.aload_n 2, 1) := by decide +kernel
theorem dL_law_329 : decode cL_law 329 = .ok (.aload_n 0, 1) := by decide +kernel
theorem dL_law_330 : decode cL_law 330 = .ok (.iload_n 3, 1) := by decide +kernel
theorem dL_law_331 : decode cL_law 331 = .ok (.iconst 1, 1) := by decide +kernel
theorem dL_law_332 : decode cL_law 332 = .ok (.iadd, 1) := by decide +kernel
theorem dL_law_333 : decode cL_law 333 = .ok (.iaload, 1) := by decide +kernel
theorem dL_law_334 : decode cL_law 334 = .ok (.invokevirtual 47, 3) := by decide +kernel
theorem dL_law_337 : decode cL_law 337 = .ok (.if_icmp .eq 752, 3) := by decide +kernel
theorem dL_law_340 : decode cL_law 340 = .ok (.iconst 0, 1) := by decide +kernel
theorem dL_law_341 : decode cL_law 341 = .ok (.ireturn, 1) := by decide +kernel
theorem dL_law_342 : decode cL_law 342 = .ok (.aload_n 1, 1) := by decide +kernel
theorem dL_law_343 : decode cL_law 343 = .ok (.aload_n 0, 1) := by decide +kernel
theorem dL_law_344 : decode cL_law 344 = .ok (.iload_n 3, 1) := by decide +kernel
theorem dL_law_345 : decode cL_law 345 = .ok (.iconst 1, 1) := by decide +kernel
theorem dL_law_346 : decode cL_law 346 = .ok (.iadd, 1) := by decide +kernel
theorem dL_law_347 : decode cL_law 347 = .ok (.iaload, 1) := by decide +kernel
theorem dL_law_348 : decode cL_law 348 = .ok (.invokevirtual 48, 3) := by decide +kernel
theorem dL_law_351 : decode cL_law 351 = .ok (.aload_n 2, 1) := by decide +kernel
theorem dL_law_352 : decode cL_law 352 = .ok (.aload_n 0, 1) := by decide +kernel
theorem dL_law_353 : decode cL_law 353 = .ok (.iload_n 3, 1) := by decide +kernel
theorem dL_law_354 : decode cL_law 354 = .ok (.iconst 1, 1) := by decide +kernel
theorem dL_law_355 : decode cL_law 355 = .ok (.iadd, 1) := by decide +kernel
theorem dL_law_356 : decode cL_law 356 = .ok (.iaload, 1) := by decide +kernel
theorem dL_law_357 : decode cL_law 357 = .ok (.invokevirtual 51, 3) := by decide +kernel
theorem dL_law_360 : decode cL_law 360 = .ok (.if_icmp .eq 729, 3) := by decide +kernel
theorem dL_law_363 : decode cL_law 363 = .ok (.iconst 0, 1) := by decide +kernel
theorem dL_law_364 : decode cL_law 364 = .ok (.ireturn, 1) := by decide +kernel
theorem dL_law_365 : decode cL_law 365 = .ok (.aload_n 1, 1) := by decide +kernel
theorem dL_law_366 : decode cL_law 366 = .ok (.invokevirtual 52, 3) := by decide +kernel
theorem dL_law_369 : decode cL_law 369 = .ok (.aload_n 2, 1) := by decide +kernel
theorem dL_law_370 : decode cL_law 370 = .ok (.invokevirtual 55, 3) := by decide +kernel
theorem dL_law_373 : decode cL_law 373 = .ok (.if_icmp .eq 716, 3) := by decide +kernel
theorem dL_law_376 : decode cL_law 376 = .ok (.iconst 0, 1) := by decide +kernel
theorem dL_law_377 : decode cL_law 377 = .ok (.ireturn, 1) := by decide +kernel
theorem dL_law_378 : decode cL_law 378 = .ok (.aload_n 1, 1) := by decide +kernel
theorem dL_law_379 : decode cL_law 379 = .ok (.invokevirtual 56, 3) := by decide +kernel
theorem dL_law_382 : decode cL_law 382 = .ok (.aload_n 2, 1) := by decide +kernel
theorem dL_law_383 : decode cL_law 383 = .ok (.invokevirtual 59, 3) := by decide +kernel
theorem dL_law_386 : decode cL_law 386 = .ok (.if_icmp .eq 703, 3) := by decide +kernel
theorem dL_law_389 : decode cL_law 389 = .ok (.iconst 0, 1) := by decide +kernel
theorem dL_law_390 : decode cL_law 390 = .ok (.ireturn, 1) := by decide +kernel
theorem dL_law_391 : decode cL_law 391 = .ok (.aload_n 1, 1) := by decide +kernel
theorem dL_law_392 : decode cL_law 392 = .ok (.aload_n 0, 1) := by decide +kernel
theorem dL_law_393 : decode cL_law 393 = .ok (.iload_n 3, 1) := by decide +kernel
theorem dL_law_394 : decode cL_law 394 = .ok (.iconst 1, 1) := by decide +kernel
theorem dL_law_395 : decode cL_law 395 = .ok (.iadd, 1) := by decide +kernel
theorem dL_law_396 : decode cL_law 396 = .ok (.iaload, 1) := by decide +kernel
theorem dL_law_397 : decode cL_law 397 = .ok (.aload_n 0, 1) := by decide +kernel
theorem dL_law_398 : decode cL_law 398 = .ok (.iload_n 3, 1) := by decide +kernel
theorem dL_law_399 : decode cL_law 399 = .ok (.iconst 2, 1) := by decide +kernel
theorem dL_law_400 : decode cL_law 400 = .ok (.iadd, 1) := by decide +kernel
theorem dL_law_401 : decode cL_law 401 = .ok (.iaload, 1) := by decide +kernel
theorem dL_law_402 : decode cL_law 402 = .ok (.invokevirtual 60, 3) := by decide +kernel
theorem dL_law_405 : decode cL_law 405 = .ok (.aload_n 2, 1) := by decide +kernel
theorem dL_law_406 : decode cL_law 406 = .ok (.aload_n 0, 1) := by decide +kernel
theorem dL_law_407 : decode cL_law 407 = .ok (.iload_n 3, 1) := by decide +kernel
theorem dL_law_408 : decode cL_law 408 = .ok (.iconst 1, 1) := by decide +kernel
theorem dL_law_409 : decode cL_law 409 = .ok (.iadd, 1) := by decide +kernel
theorem dL_law_410 : decode cL_law 410 = .ok (.iaload, 1) := by decide +kernel
theorem dL_law_411 : decode cL_law 411 = .ok (.aload_n 0, 1) := by decide +kernel
theorem dL_law_412 : decode cL_law 412 = .ok (.iload_n 3, 1) := by decide +kernel
theorem dL_law_413 : decode cL_law 413 = .ok (.iconst 2, 1) := by decide +kernel
theorem dL_law_414 : decode cL_law 414 = .ok (.iadd, 1) := by decide +kernel
theorem dL_law_415 : decode cL_law 415 = .ok (.iaload, 1) := by decide +kernel
theorem dL_law_416 : decode cL_law 416 = .ok (.invokevirtual 63, 3) := by decide +kernel
theorem dL_law_419 : decode cL_law 419 = .ok (.if_icmp .eq 670, 3) := by decide +kernel
theorem dL_law_422 : decode cL_law 422 = .ok (.iconst 0, 1) := by decide +kernel
theorem dL_law_423 : decode cL_law 423 = .ok (.ireturn, 1) := by decide +kernel
theorem dL_law_424 : decode cL_law 424 = .ok (.aload_n 1, 1) := by decide +kernel
theorem dL_law_425 : decode cL_law 425 = .ok (.invokevirtual 64, 3) := by decide +kernel
theorem dL_law_428 : decode cL_law 428 = .ok (.aload_n 2, 1) := by decide +kernel
theorem dL_law_429 : decode cL_law 429 = .ok (.invokevirtual 67, 3) := by decide +kernel
theorem dL_law_432 : decode cL_law 432 = .ok (.if_icmp .eq 657, 3) := by decide +kernel
theorem dL_law_435 : decode cL_law 435 = .ok (.iconst 0, 1) := by decide +kernel
theorem dL_law_436 : decode cL_law 436 = .ok (.ireturn, 1) := by decide +kernel
theorem dL_law_437 : decode cL_law 437 = .ok (.aload_n 1, 1) := by decide +kernel
theorem dL_law_438 : decode cL_law 438 = .ok (.aload_n 0, 1) := by decide +kernel
theorem dL_law_439 : decode cL_law 439 = .ok (.iload_n 3, 1) := by decide +kernel
theorem dL_law_440 : decode cL_law 440 = .ok (.iconst 1, 1) := by decide +kernel
theorem dL_law_441 : decode cL_law 441 = .ok (.iadd, 1) := by decide +kernel
theorem dL_law_442 : decode cL_law 442 = .ok (.iaload, 1) := by decide +kernel
theorem dL_law_443 : decode cL_law 443 = .ok (.aload_n 0, 1) := by decide +kernel
theorem dL_law_444 : decode cL_law 444 = .ok (.iload_n 3, 1) := by decide +kernel
theorem dL_law_445 : decode cL_law 445 = .ok (.iconst 2, 1) := by decide +kernel
theorem dL_law_446 : decode cL_law 446 = .ok (.iadd, 1) := by decide +kernel
theorem dL_law_447 : decode cL_law 447 = .ok (.iaload, 1) := by decide +kernel
theorem dL_law_448 : decode cL_law 448 = .ok (.ifCond .eq 7, 3) := by decide +kernel
theorem dL_law_451 : decode cL_law 451 = .ok (.iconst 1, 1) := by decide +kernel
theorem dL_law_452 : decode cL_law 452 = .ok (.goto 4, 3) := by decide +kernel
theorem dL_law_455 : decode cL_law 455 = .ok (.iconst 0, 1) := by decide +kernel
theorem dL_law_456 : decode cL_law 456 = .ok (.invokevirtual 68, 3) := by decide +kernel
theorem dL_law_459 : decode cL_law 459 = .ok (.aload_n 2, 1) := by decide +kernel
theorem dL_law_460 : decode cL_law 460 = .ok (.aload_n 0, 1) := by decide +kernel
theorem dL_law_461 : decode cL_law 461 = .ok (.iload_n 3, 1) := by decide +kernel
theorem dL_law_462 : decode cL_law 462 = .ok (.iconst 1, 1) := by decide +kernel
theorem dL_law_463 : decode cL_law 463 = .ok (.iadd, 1) := by decide +kernel
theorem dL_law_464 : decode cL_law 464 = .ok (.iaload, 1) := by decide +kernel
theorem dL_law_465 : decode cL_law 465 = .ok (.aload_n 0, 1) := by decide +kernel
theorem dL_law_466 : decode cL_law 466 = .ok (.iload_n 3, 1) := by decide +kernel
theorem dL_law_467 : decode cL_law 467 = .ok (.iconst 2, 1) := by decide +kernel
theorem dL_law_468 : decode cL_law 468 = .ok (.iadd, 1) := by decide +kernel
theorem dL_law_469 : decode cL_law 469 = .ok (.iaload, 1) := by decide +kernel
theorem dL_law_470 : decode cL_law 470 = .ok (.ifCond .eq 7, 3) := by decide +kernel
theorem dL_law_473 : decode cL_law 473 = .ok (.iconst 1, 1) := by decide +kernel
theorem dL_law_474 : decode cL_law 474 = .ok (.goto 4, 3) := by decide +kernel
theorem dL_law_477 : decode cL_law 477 = .ok (.iconst 0, 1) := by decide +kernel
theorem dL_law_478 : decode cL_law 478 = .ok (.invokevirtual 72, 3) := by decide +kernel
theorem dL_law_481 : decode cL_law 481 = .ok (.if_icmp .eq 608, 3) := by decide +kernel
theorem dL_law_484 : decode cL_law 484 = .ok (.iconst 0, 1) := by decide +kernel
theorem dL_law_485 : decode cL_law 485 = .ok (.ireturn, 1) := by decide +kernel
theorem dL_law_486 : decode cL_law 486 = .ok (.aload_n 1, 1) := by decide +kernel
theorem dL_law_487 : decode cL_law 487 = .ok (.aload_n 0, 1) := by decide +kernel
theorem dL_law_488 : decode cL_law 488 = .ok (.iload_n 3, 1) := by decide +kernel
theorem dL_law_489 : decode cL_law 489 = .ok (.iconst 1, 1) := by decide +kernel
theorem dL_law_490 : decode cL_law 490 = .ok (.iadd, 1) := by decide +kernel
theorem dL_law_491 : decode cL_law 491 = .ok (.iaload, 1) := by decide +kernel
theorem dL_law_492 : decode cL_law 492 = .ok (.aload_n 0, 1) := by decide +kernel
theorem dL_law_493 : decode cL_law 493 = .ok (.iload_n 3, 1) := by decide +kernel
theorem dL_law_494 : decode cL_law 494 = .ok (.iconst 2, 1) := by decide +kernel
theorem dL_law_495 : decode cL_law 495 = .ok (.iadd, 1) := by decide +kernel
theorem dL_law_496 : decode cL_law 496 = .ok (.iaload, 1) := by decide +kernel
theorem dL_law_497 : decode cL_law 497 = .ok (.invokevirtual 73, 3) := by decide +kernel
theorem dL_law_500 : decode cL_law 500 = .ok (.aload_n 2, 1) := by decide +kernel
theorem dL_law_501 : decode cL_law 501 = .ok (.aload_n 0, 1) := by decide +kernel
theorem dL_law_502 : decode cL_law 502 = .ok (.iload_n 3, 1) := by decide +kernel
theorem dL_law_503 : decode cL_law 503 = .ok (.iconst 1, 1) := by decide +kernel
theorem dL_law_504 : decode cL_law 504 = .ok (.iadd, 1) := by decide +kernel
theorem dL_law_505 : decode cL_law 505 = .ok (.iaload, 1) := by decide +kernel
theorem dL_law_506 : decode cL_law 506 = .ok (.aload_n 0, 1) := by decide +kernel
theorem dL_law_507 : decode cL_law 507 = .ok (.iload_n 3, 1) := by decide +kernel
theorem dL_law_508 : decode cL_law 508 = .ok (.iconst 2, 1) := by decide +kernel
theorem dL_law_509 : decode cL_law 509 = .ok (.iadd, 1) := by decide +kernel
theorem dL_law_510 : decode cL_law 510 = .ok (.iaload, 1) := by decide +kernel
theorem dL_law_511 : decode cL_law 511 = .ok (.invokevirtual 76, 3) := by decide +kernel
theorem dL_law_514 : decode cL_law 514 = .ok (.if_icmp .eq 575, 3) := by decide +kernel
theorem dL_law_517 : decode cL_law 517 = .ok (.iconst 0, 1) := by decide +kernel
theorem dL_law_518 : decode cL_law 518 = .ok (.ireturn, 1) := by decide +kernel
theorem dL_law_519 : decode cL_law 519 = .ok (.aload_n 1, 1) := by decide +kernel
theorem dL_law_520 : decode cL_law 520 = .ok (.aload_n 0, 1) := by decide +kernel
theorem dL_law_521 : decode cL_law 521 = .ok (.iload_n 3, 1) := by decide +kernel
theorem dL_law_522 : decode cL_law 522 = .ok (.iconst 1, 1) := by decide +kernel
theorem dL_law_523 : decode cL_law 523 = .ok (.iadd, 1) := by decide +kernel
theorem dL_law_524 : decode cL_law 524 = .ok (.iaload, 1) := by decide +kernel
theorem dL_law_525 : decode cL_law 525 = .ok (.aload_n 0, 1) := by decide +kernel
theorem dL_law_526 : decode cL_law 526 = .ok (.iload_n 3, 1) := by decide +kernel
theorem dL_law_527 : decode cL_law 527 = .ok (.iconst 2, 1) := by decide +kernel
theorem dL_law_528 : decode cL_law 528 = .ok (.iadd, 1) := by decide +kernel
theorem dL_law_529 : decode cL_law 529 = .ok (.iaload, 1) := by decide +kernel
theorem dL_law_530 : decode cL_law 530 = .ok (.ifCond .eq 7, 3) := by decide +kernel
theorem dL_law_533 : decode cL_law 533 = .ok (.iconst 1, 1) := by decide +kernel
theorem dL_law_534 : decode cL_law 534 = .ok (.goto 4, 3) := by decide +kernel
theorem dL_law_537 : decode cL_law 537 = .ok (.iconst 0, 1) := by decide +kernel
theorem dL_law_538 : decode cL_law 538 = .ok (.invokevirtual 77, 3) := by decide +kernel
theorem dL_law_541 : decode cL_law 541 = .ok (.aload_n 2, 1) := by decide +kernel
theorem dL_law_542 : decode cL_law 542 = .ok (.aload_n 0, 1) := by decide +kernel
theorem dL_law_543 : decode cL_law 543 = .ok (.iload_n 3, 1) := by decide +kernel
theorem dL_law_544 : decode cL_law 544 = .ok (.iconst 1, 1) := by decide +kernel
theorem dL_law_545 : decode cL_law 545 = .ok (.iadd, 1) := by decide +kernel
theorem dL_law_546 : decode cL_law 546 = .ok (.iaload, 1) := by decide +kernel
theorem dL_law_547 : decode cL_law 547 = .ok (.aload_n 0, 1) := by decide +kernel
theorem dL_law_548 : decode cL_law 548 = .ok (.iload_n 3, 1) := by decide +kernel
theorem dL_law_549 : decode cL_law 549 = .ok (.iconst 2, 1) := by decide +kernel
theorem dL_law_550 : decode cL_law 550 = .ok (.iadd, 1) := by decide +kernel
theorem dL_law_551 : decode cL_law 551 = .ok (.iaload, 1) := by decide +kernel
theorem dL_law_552 : decode cL_law 552 = .ok (.ifCond .eq 7, 3) := by decide +kernel
theorem dL_law_555 : decode cL_law 555 = .ok (.iconst 1, 1) := by decide +kernel
theorem dL_law_556 : decode cL_law 556 = .ok (.goto 4, 3) := by decide +kernel
theorem dL_law_559 : decode cL_law 559 = .ok (.iconst 0, 1) := by decide +kernel
theorem dL_law_560 : decode cL_law 560 = .ok (.invokevirtual 80, 3) := by decide +kernel
theorem dL_law_563 : decode cL_law 563 = .ok (.if_icmp .eq 526, 3) := by decide +kernel
theorem dL_law_566 : decode cL_law 566 = .ok (.iconst 0, 1) := by decide +kernel
theorem dL_law_567 : decode cL_law 567 = .ok (.ireturn, 1) := by decide +kernel
theorem dL_law_568 : decode cL_law 568 = .ok (.aload_n 1, 1) := by decide +kernel
theorem dL_law_569 : decode cL_law 569 = .ok (.aload_n 0, 1) := by decide +kernel
theorem dL_law_570 : decode cL_law 570 = .ok (.iload_n 3, 1) := by decide +kernel
theorem dL_law_571 : decode cL_law 571 = .ok (.iconst 1, 1) := by decide +kernel
theorem dL_law_572 : decode cL_law 572 = .ok (.iadd, 1) := by decide +kernel
theorem dL_law_573 : decode cL_law 573 = .ok (.iaload, 1) := by decide +kernel
theorem dL_law_574 : decode cL_law 574 = .ok (.invokevirtual 81, 3) := by decide +kernel
theorem dL_law_577 : decode cL_law 577 = .ok (.aload_n 2, 1) := by decide +kernel
theorem dL_law_578 : decode cL_law 578 = .ok (.aload_n 0, 1) := by decide +kernel
theorem dL_law_579 : decode cL_law 579 = .ok (.iload_n 3, 1) := by decide +kernel
theorem dL_law_580 : decode cL_law 580 = .ok (.iconst 1, 1) := by decide +kernel
theorem dL_law_581 : decode cL_law 581 = .ok (.iadd, 1) := by decide +kernel
theorem dL_law_582 : decode cL_law 582 = .ok (.iaload, 1) := by decide +kernel
theorem dL_law_583 : decode cL_law 583 = .ok (.invokevirtual 84, 3) := by decide +kernel
theorem dL_law_586 : decode cL_law 586 = .ok (.if_icmp .eq 503, 3) := by decide +kernel
theorem dL_law_589 : decode cL_law 589 = .ok (.iconst 0, 1) := by decide +kernel
theorem dL_law_590 : decode cL_law 590 = .ok (.ireturn, 1) := by decide +kernel
theorem dL_law_591 : decode cL_law 591 = .ok (.aload_n 1, 1) := by decide +kernel
theorem dL_law_592 : decode cL_law 592 = .ok (.aload_n 0, 1) := by decide +kernel
theorem dL_law_593 : decode cL_law 593 = .ok (.iload_n 3, 1) := by decide +kernel
theorem dL_law_594 : decode cL_law 594 = .ok (.iconst 1, 1) := by decide +kernel
theorem dL_law_595 : decode cL_law 595 = .ok (.iadd, 1) := by decide +kernel
theorem dL_law_596 : decode cL_law 596 = .ok (.iaload, 1) := by decide +kernel
theorem dL_law_597 : decode cL_law 597 = .ok (.aload_n 0, 1) := by decide +kernel
theorem dL_law_598 : decode cL_law 598 = .ok (.iload_n 3, 1) := by decide +kernel
theorem dL_law_599 : decode cL_law 599 = .ok (.iconst 2, 1) := by decide +kernel
theorem dL_law_600 : decode cL_law 600 = .ok (.iadd, 1) := by decide +kernel
theorem dL_law_601 : decode cL_law 601 = .ok (.iaload, 1) := by decide +kernel
theorem dL_law_602 : decode cL_law 602 = .ok (.invokevirtual 85, 3) := by decide +kernel
theorem dL_law_605 : decode cL_law 605 = .ok (.aload_n 2, 1) := by decide +kernel
theorem dL_law_606 : decode cL_law 606 = .ok (.aload_n 0, 1) := by decide +kernel
theorem dL_law_607 : decode cL_law 607 = .ok (.iload_n 3, 1) := by decide +kernel
theorem dL_law_608 : decode cL_law 608 = .ok (.iconst 1, 1) := by decide +kernel
theorem dL_law_609 : decode cL_law 609 = .ok (.iadd, 1) := by decide +kernel
theorem dL_law_610 : decode cL_law 610 = .ok (.iaload, 1) := by decide +kernel
theorem dL_law_611 : decode cL_law 611 = .ok (.aload_n 0, 1) := by decide +kernel
theorem dL_law_612 : decode cL_law 612 = .ok (.iload_n 3, 1) := by decide +kernel
theorem dL_law_613 : decode cL_law 613 = .ok (.iconst 2, 1) := by decide +kernel
theorem dL_law_614 : decode cL_law 614 = .ok (.iadd, 1) := by decide +kernel
theorem dL_law_615 : decode cL_law 615 = .ok (.iaload, 1) := by decide +kernel
theorem dL_law_616 : decode cL_law 616 = .ok (.invokevirtual 88, 3) := by decide +kernel
theorem dL_law_619 : decode cL_law 619 = .ok (.if_icmp .eq 470, 3) := by decide +kernel
theorem dL_law_622 : decode cL_law 622 = .ok (.iconst 0, 1) := by decide +kernel
theorem dL_law_623 : decode cL_law 623 = .ok (.ireturn, 1) := by decide +kernel
theorem dL_law_624 : decode cL_law 624 = .ok (.aload_n 1, 1) := by decide +kernel
theorem dL_law_625 : decode cL_law 625 = .ok (.aload_n 0, 1) := by decide +kernel
theorem dL_law_626 : decode cL_law 626 = .ok (.iload_n 3, 1) := by decide +kernel
theorem dL_law_627 : decode cL_law 627 = .ok (.iconst 1, 1) := by decide +kernel
theorem dL_law_628 : decode cL_law 628 = .ok (.iadd, 1) := by decide +kernel
theorem dL_law_629 : decode cL_law 629 = .ok (.iaload, 1) := by decide +kernel
theorem dL_law_630 : decode cL_law 630 = .ok (.aload_n 0, 1) := by decide +kernel
theorem dL_law_631 : decode cL_law 631 = .ok (.iload_n 3, 1) := by decide +kernel
theorem dL_law_632 : decode cL_law 632 = .ok (.iconst 2, 1) := by decide +kernel
theorem dL_law_633 : decode cL_law 633 = .ok (.iadd, 1) := by decide +kernel
theorem dL_law_634 : decode cL_law 634 = .ok (.iaload, 1) := by decide +kernel
theorem dL_law_635 : decode cL_law 635 = .ok (.aload_n 0, 1) := by decide +kernel
theorem dL_law_636 : decode cL_law 636 = .ok (.iload_n 3, 1) := by decide +kernel
theorem dL_law_637 : decode cL_law 637 = .ok (.iconst 3, 1) := by decide +kernel
theorem dL_law_638 : decode cL_law 638 = .ok (.iadd, 1) := by decide +kernel
theorem dL_law_639 : decode cL_law 639 = .ok (.iaload, 1) := by decide +kernel
theorem dL_law_640 : decode cL_law 640 = .ok (.invokevirtual 89, 3) := by decide +kernel
theorem dL_law_643 : decode cL_law 643 = .ok (.aload_n 2, 1) := by decide +kernel
theorem dL_law_644 : decode cL_law 644 = .ok (.aload_n 0, 1) := by decide +kernel
theorem dL_law_645 : decode cL_law 645 = .ok (.iload_n 3, 1) := by decide +kernel
theorem dL_law_646 : decode cL_law 646 = .ok (.iconst 1, 1) := by decide +kernel
theorem dL_law_647 : decode cL_law 647 = .ok (.iadd, 1) := by decide +kernel
theorem dL_law_648 : decode cL_law 648 = .ok (.iaload, 1) := by decide +kernel
theorem dL_law_649 : decode cL_law 649 = .ok (.aload_n 0, 1) := by decide +kernel
theorem dL_law_650 : decode cL_law 650 = .ok (.iload_n 3, 1) := by decide +kernel
theorem dL_law_651 : decode cL_law 651 = .ok (.iconst 2, 1) := by decide +kernel
theorem dL_law_652 : decode cL_law 652 = .ok (.iadd, 1) := by decide +kernel
theorem dL_law_653 : decode cL_law 653 = .ok (.iaload, 1) := by decide +kernel
theorem dL_law_654 : decode cL_law 654 = .ok (.aload_n 0, 1) := by decide +kernel
theorem dL_law_655 : decode cL_law 655 = .ok (.iload_n 3, 1) := by decide +kernel
theorem dL_law_656 : decode cL_law 656 = .ok (.iconst 3, 1) := by decide +kernel
theorem dL_law_657 : decode cL_law 657 = .ok (.iadd, 1) := by decide +kernel
theorem dL_law_658 : decode cL_law 658 = .ok (.iaload, 1) := by decide +kernel
theorem dL_law_659 : decode cL_law 659 = .ok (.invokevirtual 93, 3) := by decide +kernel
theorem dL_law_662 : decode cL_law 662 = .ok (.if_icmp .eq 427, 3) := by decide +kernel
theorem dL_law_665 : decode cL_law 665 = .ok (.iconst 0, 1) := by decide +kernel
theorem dL_law_666 : decode cL_law 666 = .ok (.ireturn, 1) := by decide +kernel
theorem dL_law_667 : decode cL_law 667 = .ok (.aload_n 1, 1) := by decide +kernel
theorem dL_law_668 : decode cL_law 668 = .ok (.invokevirtual 94, 3) := by decide +kernel
theorem dL_law_671 : decode cL_law 671 = .ok (.aload_n 2, 1) := by decide +kernel
theorem dL_law_672 : decode cL_law 672 = .ok (.invokevirtual 97, 3) := by decide +kernel
theorem dL_law_675 : decode cL_law 675 = .ok (.if_icmp .eq 414, 3) := by decide +kernel
theorem dL_law_678 : decode cL_law 678 = .ok (.iconst 0, 1) := by decide +kernel
theorem dL_law_679 : decode cL_law 679 = .ok (.ireturn, 1) := by decide +kernel
theorem dL_law_680 : decode cL_law 680 = .ok (.aload_n 1, 1) := by decide +kernel
theorem dL_law_681 : decode cL_law 681 = .ok (.aload_n 0, 1) := by decide +kernel
theorem dL_law_682 : decode cL_law 682 = .ok (.iload_n 3, 1) := by decide +kernel
theorem dL_law_683 : decode cL_law 683 = .ok (.iconst 1, 1) := by decide +kernel
theorem dL_law_684 : decode cL_law 684 = .ok (.iadd, 1) := by decide +kernel
theorem dL_law_685 : decode cL_law 685 = .ok (.iaload, 1) := by decide +kernel
theorem dL_law_686 : decode cL_law 686 = .ok (.invokevirtual 98, 3) := by decide +kernel
theorem dL_law_689 : decode cL_law 689 = .ok (.aload_n 2, 1) := by decide +kernel
theorem dL_law_690 : decode cL_law 690 = .ok (.aload_n 0, 1) := by decide +kernel
theorem dL_law_691 : decode cL_law 691 = .ok (.iload_n 3, 1) := by decide +kernel
theorem dL_law_692 : decode cL_law 692 = .ok (.iconst 1, 1) := by decide +kernel
theorem dL_law_693 : decode cL_law 693 = .ok (.iadd, 1) := by decide +kernel
theorem dL_law_694 : decode cL_law 694 = .ok (.iaload, 1) := by decide +kernel
theorem dL_law_695 : decode cL_law 695 = .ok (.invokevirtual 101, 3) := by decide +kernel
theorem dL_law_698 : decode cL_law 698 = .ok (.if_icmp .eq 391, 3) := by decide +kernel
theorem dL_law_701 : decode cL_law 701 = .ok (.iconst 0, 1) := by decide +kernel
theorem dL_law_702 : decode cL_law 702 = .ok (.ireturn, 1) := by decide +kernel
theorem dL_law_703 : decode cL_law 703 = .ok (.aload_n 1, 1) := by decide +kernel
theorem dL_law_704 : decode cL_law 704 = .ok (.aload_n 0, 1) := by decide +kernel
theorem dL_law_705 : decode cL_law 705 = .ok (.iload_n 3, 1) := by decide +kernel
theorem dL_law_706 : decode cL_law 706 = .ok (.iconst 1, 1) := by decide +kernel
theorem dL_law_707 : decode cL_law 707 = .ok (.iadd, 1) := by decide +kernel
theorem dL_law_708 : decode cL_law 708 = .ok (.iaload, 1) := by decide +kernel
theorem dL_law_709 : decode cL_law 709 = .ok (.ifCond .eq 7, 3) := by decide +kernel
theorem dL_law_712 : decode cL_law 712 = .ok (.iconst 1, 1) := by decide +kernel
theorem dL_law_713 : decode cL_law 713 = .ok (.goto 4, 3) := by decide +kernel
theorem dL_law_716 : decode cL_law 716 = .ok (.iconst 0, 1) := by decide +kernel
theorem dL_law_717 : decode cL_law 717 = .ok (.invokevirtual 102, 3) := by decide +kernel
theorem dL_law_720 : decode cL_law 720 = .ok (.aload_n 2, 1) := by decide +kernel
theorem dL_law_721 : decode cL_law 721 = .ok (.aload_n 0, 1) := by decide +kernel
theorem dL_law_722 : decode cL_law 722 = .ok (.iload_n 3, 1) := by decide +kernel
theorem dL_law_723 : decode cL_law 723 = .ok (.iconst 1, 1) := by decide +kernel
theorem dL_law_724 : decode cL_law 724 = .ok (.iadd, 1) := by decide +kernel
theorem dL_law_725 : decode cL_law 725 = .ok (.iaload, 1) := by decide +kernel
theorem dL_law_726 : decode cL_law 726 = .ok (.ifCond .eq 7, 3) := by decide +kernel
theorem dL_law_729 : decode cL_law 729 = .ok (.iconst 1, 1) := by decide +kernel
theorem dL_law_730 : decode cL_law 730 = .ok (.goto 4, 3) := by decide +kernel
theorem dL_law_733 : decode cL_law 733 = .ok (.iconst 0, 1) := by decide +kernel
theorem dL_law_734 : decode cL_law 734 = .ok (.invokevirtual 106, 3) := by decide +kernel
theorem dL_law_737 : decode cL_law 737 = .ok (.if_icmp .eq 352, 3) := by decide +kernel
theorem dL_law_740 : decode cL_law 740 = .ok (.iconst 0, 1) := by decide +kernel
theorem dL_law_741 : decode cL_law 741 = .ok (.ireturn, 1) := by decide +kernel
theorem dL_law_742 : decode cL_law 742 = .ok (.aload_n 1, 1) := by decide +kernel
theorem dL_law_743 : decode cL_law 743 = .ok (.aload_n 0, 1) := by decide +kernel
theorem dL_law_744 : decode cL_law 744 = .ok (.iload_n 3, 1) := by decide +kernel
theorem dL_law_745 : decode cL_law 745 = .ok (.iconst 1, 1) := by decide +kernel
theorem dL_law_746 : decode cL_law 746 = .ok (.iadd, 1) := by decide +kernel
theorem dL_law_747 : decode cL_law 747 = .ok (.iaload, 1) := by decide +kernel
theorem dL_law_748 : decode cL_law 748 = .ok (.aload_n 0, 1) := by decide +kernel
theorem dL_law_749 : decode cL_law 749 = .ok (.iload_n 3, 1) := by decide +kernel
theorem dL_law_750 : decode cL_law 750 = .ok (.iconst 2, 1) := by decide +kernel
theorem dL_law_751 : decode cL_law 751 = .ok (.iadd, 1) := by decide +kernel
theorem dL_law_752 : decode cL_law 752 = .ok (.iaload, 1) := by decide +kernel
theorem dL_law_753 : decode cL_law 753 = .ok (.aload_n 0, 1) := by decide +kernel
theorem dL_law_754 : decode cL_law 754 = .ok (.iload_n 3, 1) := by decide +kernel
theorem dL_law_755 : decode cL_law 755 = .ok (.iconst 3, 1) := by decide +kernel
theorem dL_law_756 : decode cL_law 756 = .ok (.iadd, 1) := by decide +kernel
theorem dL_law_757 : decode cL_law 757 = .ok (.iaload, 1) := by decide +kernel
theorem dL_law_758 : decode cL_law 758 = .ok (.ifCond .eq 7, 3) := by decide +kernel
theorem dL_law_761 : decode cL_law 761 = .ok (.iconst 1, 1) := by decide +kernel
theorem dL_law_762 : decode cL_law 762 = .ok (.goto 4, 3) := by decide +kernel
theorem dL_law_765 : decode cL_law 765 = .ok (.iconst 0, 1) := by decide +kernel
theorem dL_law_766 : decode cL_law 766 = .ok (.invokevirtual 107, 3) := by decide +kernel
theorem dL_law_769 : decode cL_law 769 = .ok (.aload_n 2, 1) := by decide +kernel
theorem dL_law_770 : decode cL_law 770 = .ok (.aload_n 0, 1) := by decide +kernel
theorem dL_law_771 : decode cL_law 771 = .ok (.iload_n 3, 1) := by decide +kernel
theorem dL_law_772 : decode cL_law 772 = .ok (.iconst 1, 1) := by decide +kernel
theorem dL_law_773 : decode cL_law 773 = .ok (.iadd, 1) := by decide +kernel
theorem dL_law_774 : decode cL_law 774 = .ok (.iaload, 1) := by decide +kernel
theorem dL_law_775 : decode cL_law 775 = .ok (.aload_n 0, 1) := by decide +kernel
theorem dL_law_776 : decode cL_law 776 = .ok (.iload_n 3, 1) := by decide +kernel
theorem dL_law_777 : decode cL_law 777 = .ok (.iconst 2, 1) := by decide +kernel
theorem dL_law_778 : decode cL_law 778 = .ok (.iadd, 1) := by decide +kernel
theorem dL_law_779 : decode cL_law 779 = .ok (.iaload, 1) := by decide +kernel
theorem dL_law_780 : decode cL_law 780 = .ok (.aload_n 0, 1) := by decide +kernel
theorem dL_law_781 : decode cL_law 781 = .ok (.iload_n 3, 1) := by decide +kernel
theorem dL_law_782 : decode cL_law 782 = .ok (.iconst 3, 1) := by decide +kernel
theorem dL_law_783 : decode cL_law 783 = .ok (.iadd, 1) := by decide +kernel
theorem dL_law_784 : decode cL_law 784 = .ok (.iaload, 1) := by decide +kernel
theorem dL_law_785 : decode cL_law 785 = .ok (.ifCond .eq 7, 3) := by decide +kernel
theorem dL_law_788 : decode cL_law 788 = .ok (.iconst 1, 1) := by decide +kernel
theorem dL_law_789 : decode cL_law 789 = .ok (.goto 4, 3) := by decide +kernel
theorem dL_law_792 : decode cL_law 792 = .ok (.iconst 0, 1) := by decide +kernel
theorem dL_law_793 : decode cL_law 793 = .ok (.invokevirtual 111, 3) := by decide +kernel
theorem dL_law_796 : decode cL_law 796 = .ok (.if_icmp .eq 293, 3) := by decide +kernel
theorem dL_law_799 : decode cL_law 799 = .ok (.iconst 0, 1) := by decide +kernel
theorem dL_law_800 : decode cL_law 800 = .ok (.ireturn, 1) := by decide +kernel
theorem dL_law_801 : decode cL_law 801 = .ok (.aload_n 1, 1) := by decide +kernel
theorem dL_law_802 : decode cL_law 802 = .ok (.aload_n 0, 1) := by decide +kernel
theorem dL_law_803 : decode cL_law 803 = .ok (.iload_n 3, 1) := by decide +kernel
theorem dL_law_804 : decode cL_law 804 = .ok (.iconst 1, 1) := by decide +kernel
theorem dL_law_805 : decode cL_law 805 = .ok (.iadd, 1) := by decide +kernel
theorem dL_law_806 : decode cL_law 806 = .ok (.iaload, 1) := by decide +kernel
theorem dL_law_807 : decode cL_law 807 = .ok (.aload_n 0, 1) := by decide +kernel
theorem dL_law_808 : decode cL_law 808 = .ok (.iload_n 3, 1) := by decide +kernel
theorem dL_law_809 : decode cL_law 809 = .ok (.iconst 2, 1) := by decide +kernel
theorem dL_law_810 : decode cL_law 810 = .ok (.iadd, 1) := by decide +kernel
theorem dL_law_811 : decode cL_law 811 = .ok (.iaload, 1) := by decide +kernel
theorem dL_law_812 : decode cL_law 812 = .ok (.aload_n 0, 1) := by decide +kernel
theorem dL_law_813 : decode cL_law 813 = .ok (.iload_n 3, 1) := by decide +kernel
theorem dL_law_814 : decode cL_law 814 = .ok (.iconst 3, 1) := by decide +kernel
theorem dL_law_815 : decode cL_law 815 = .ok (.iadd, 1) := by decide +kernel
theorem dL_law_816 : decode cL_law 816 = .ok (.iaload, 1) := by decide +kernel
theorem dL_law_817 : decode cL_law 817 = .ok (.aload_n 0, 1) := by decide +kernel
theorem dL_law_818 : decode cL_law 818 = .ok (.iload_n 3, 1) := by decide +kernel
theorem dL_law_819 : decode cL_law 819 = .ok (.iconst 4, 1) := by decide +kernel
theorem dL_law_820 : decode cL_law 820 = .ok (.iadd, 1) := by decide +kernel
theorem dL_law_821 : decode cL_law 821 = .ok (.iaload, 1) := by decide +kernel
theorem dL_law_822 : decode cL_law 822 = .ok (.aload_n 0, 1) := by decide +kernel
theorem dL_law_823 : decode cL_law 823 = .ok (.iload_n 3, 1) := by decide +kernel
theorem dL_law_824 : decode cL_law 824 = .ok (.iconst 5, 1) := by decide +kernel
theorem dL_law_825 : decode cL_law 825 = .ok (.iadd, 1) := by decide +kernel
theorem dL_law_826 : decode cL_law 826 = .ok (.iaload, 1) := by decide +kernel
theorem dL_law_827 : decode cL_law 827 = .ok (.invokevirtual 112, 3) := by decide +kernel
theorem dL_law_830 : decode cL_law 830 = .ok (.aload_n 2, 1) := by decide +kernel
theorem dL_law_831 : decode cL_law 831 = .ok (.aload_n 0, 1) := by decide +kernel
theorem dL_law_832 : decode cL_law 832 = .ok (.iload_n 3, 1) := by decide +kernel
theorem dL_law_833 : decode cL_law 833 = .ok (.iconst 1, 1) := by decide +kernel
theorem dL_law_834 : decode cL_law 834 = .ok (.iadd, 1) := by decide +kernel
theorem dL_law_835 : decode cL_law 835 = .ok (.iaload, 1) := by decide +kernel
theorem dL_law_836 : decode cL_law 836 = .ok (.aload_n 0, 1) := by decide +kernel
theorem dL_law_837 : decode cL_law 837 = .ok (.iload_n 3, 1) := by decide +kernel
theorem dL_law_838 : decode cL_law 838 = .ok (.iconst 2, 1) := by decide +kernel
theorem dL_law_839 : decode cL_law 839 = .ok (.iadd, 1) := by decide +kernel
theorem dL_law_840 : decode cL_law 840 = .ok (.iaload, 1) := by decide +kernel
theorem dL_law_841 : decode cL_law 841 = .ok (.aload_n 0, 1) := by decide +kernel
theorem dL_law_842 : decode cL_law 842 = .ok (.iload_n 3, 1) := by decide +kernel
theorem dL_law_843 : decode cL_law 843 = .ok (.iconst 3, 1) := by decide +kernel
theorem dL_law_844 : decode cL_law 844 = .ok (.iadd, 1) := by decide +kernel
theorem dL_law_845 : decode cL_law 845 = .ok (.iaload, 1) := by decide +kernel
theorem dL_law_846 : decode cL_law 846 = .ok (.aload_n 0, 1) := by decide +kernel
theorem dL_law_847 : decode cL_law 847 = .ok (.iload_n 3, 1) := by decide +kernel
theorem dL_law_848 : decode cL_law 848 = .ok (.iconst 4, 1) := by decide +kernel
theorem dL_law_849 : decode cL_law 849 = .ok (.iadd, 1) := by decide +kernel
theorem dL_law_850 : decode cL_law 850 = .ok (.iaload, 1) := by decide +kernel
theorem dL_law_851 : decode cL_law 851 = .ok (.aload_n 0, 1) := by decide +kernel
theorem dL_law_852 : decode cL_law 852 = .ok (.iload_n 3, 1) := by decide +kernel
theorem dL_law_853 : decode cL_law 853 = .ok (.iconst 5, 1) := by decide +kernel
theorem dL_law_854 : decode cL_law 854 = .ok (.iadd, 1) := by decide +kernel
theorem dL_law_855 : decode cL_law 855 = .ok (.iaload, 1) := by decide +kernel
theorem dL_law_856 : decode cL_law 856 = .ok (.invokevirtual 116, 3) := by decide +kernel
theorem dL_law_859 : decode cL_law 859 = .ok (.if_icmp .eq 230, 3) := by decide +kernel
theorem dL_law_862 : decode cL_law 862 = .ok (.iconst 0, 1) := by decide +kernel
theorem dL_law_863 : decode cL_law 863 = .ok (.ireturn, 1) := by decide +kernel
theorem dL_law_864 : decode cL_law 864 = .ok (.aload_n 1, 1) := by decide +kernel
theorem dL_law_865 : decode cL_law 865 = .ok (.aload_n 0, 1) := by decide +kernel
theorem dL_law_866 : decode cL_law 866 = .ok (.iload_n 3, 1) := by decide +kernel
theorem dL_law_867 : decode cL_law 867 = .ok (.iconst 1, 1) := by decide +kernel
theorem dL_law_868 : decode cL_law 868 = .ok (.iadd, 1) := by decide +kernel
theorem dL_law_869 : decode cL_law 869 = .ok (.iaload, 1) := by decide +kernel
theorem dL_law_870 : decode cL_law 870 = .ok (.aload_n 0, 1) := by decide +kernel
theorem dL_law_871 : decode cL_law 871 = .ok (.iload_n 3, 1) := by decide +kernel
theorem dL_law_872 : decode cL_law 872 = .ok (.iconst 2, 1) := by decide +kernel
theorem dL_law_873 : decode cL_law 873 = .ok (.iadd, 1) := by decide +kernel
theorem dL_law_874 : decode cL_law 874 = .ok (.iaload, 1) := by decide +kernel
theorem dL_law_875 : decode cL_law 875 = .ok (.aload_n 0, 1) := by decide +kernel
theorem dL_law_876 : decode cL_law 876 = .ok (.iload_n 3, 1) := by decide +kernel
theorem dL_law_877 : decode cL_law 877 = .ok (.iconst 3, 1) := by decide +kernel
theorem dL_law_878 : decode cL_law 878 = .ok (.iadd, 1) := by decide +kernel
theorem dL_law_879 : decode cL_law 879 = .ok (.iaload, 1) := by decide +kernel
theorem dL_law_880 : decode cL_law 880 = .ok (.aload_n 0, 1) := by decide +kernel
theorem dL_law_881 : decode cL_law 881 = .ok (.iload_n 3, 1) := by decide +kernel
theorem dL_law_882 : decode cL_law 882 = .ok (.iconst 4, 1) := by decide +kernel
theorem dL_law_883 : decode cL_law 883 = .ok (.iadd, 1) := by decide +kernel
theorem dL_law_884 : decode cL_law 884 = .ok (.iaload, 1) := by decide +kernel
theorem dL_law_885 : decode cL_law 885 = .ok (.aload_n 0, 1) := by decide +kernel
theorem dL_law_886 : decode cL_law 886 = .ok (.iload_n 3, 1) := by decide +kernel
theorem dL_law_887 : decode cL_law 887 = .ok (.iconst 5, 1) := by decide +kernel
theorem dL_law_888 : decode cL_law 888 = .ok (.iadd, 1) := by decide +kernel
theorem dL_law_889 : decode cL_law 889 = .ok (.iaload, 1) := by decide +kernel
theorem dL_law_890 : decode cL_law 890 = .ok (.ifCond .eq 7, 3) := by decide +kernel
theorem dL_law_893 : decode cL_law 893 = .ok (.iconst 1, 1) := by decide +kernel
theorem dL_law_894 : decode cL_law 894 = .ok (.goto 4, 3) := by decide +kernel
theorem dL_law_897 : decode cL_law 897 = .ok (.iconst 0, 1) := by decide +kernel
theorem dL_law_898 : decode cL_law 898 = .ok (.invokevirtual 117, 3) := by decide +kernel
theorem dL_law_901 : decode cL_law 901 = .ok (.aload_n 2, 1) := by decide +kernel
theorem dL_law_902 : decode cL_law 902 = .ok (.aload_n 0, 1) := by decide +kernel
theorem dL_law_903 : decode cL_law 903 = .ok (.iload_n 3, 1) := by decide +kernel
theorem dL_law_904 : decode cL_law 904 = .ok (.iconst 1, 1) := by decide +kernel
theorem dL_law_905 : decode cL_law 905 = .ok (.iadd, 1) := by decide +kernel
theorem dL_law_906 : decode cL_law 906 = .ok (.iaload, 1) := by decide +kernel
theorem dL_law_907 : decode cL_law 907 = .ok (.aload_n 0, 1) := by decide +kernel
theorem dL_law_908 : decode cL_law 908 = .ok (.iload_n 3, 1) := by decide +kernel
theorem dL_law_909 : decode cL_law 909 = .ok (.iconst 2, 1) := by decide +kernel
theorem dL_law_910 : decode cL_law 910 = .ok (.iadd, 1) := by decide +kernel
theorem dL_law_911 : decode cL_law 911 = .ok (.iaload, 1) := by decide +kernel
theorem dL_law_912 : decode cL_law 912 = .ok (.aload_n 0, 1) := by decide +kernel
theorem dL_law_913 : decode cL_law 913 = .ok (.iload_n 3, 1) := by decide +kernel
theorem dL_law_914 : decode cL_law 914 = .ok (.iconst 3, 1) := by decide +kernel
theorem dL_law_915 : decode cL_law 915 = .ok (.iadd, 1) := by decide +kernel
theorem dL_law_916 : decode cL_law 916 = .ok (.iaload, 1) := by decide +kernel
theorem dL_law_917 : decode cL_law 917 = .ok (.aload_n 0, 1) := by decide +kernel
theorem dL_law_918 : decode cL_law 918 = .ok (.iload_n 3, 1) := by decide +kernel
theorem dL_law_919 : decode cL_law 919 = .ok (.iconst 4, 1) := by decide +kernel
theorem dL_law_920 : decode cL_law 920 = .ok (.iadd, 1) := by decide +kernel
theorem dL_law_921 : decode cL_law 921 = .ok (.iaload, 1) := by decide +kernel
theorem dL_law_922 : decode cL_law 922 = .ok (.aload_n 0, 1) := by decide +kernel
theorem dL_law_923 : decode cL_law 923 = .ok (.iload_n 3, 1) := by decide +kernel
theorem dL_law_924 : decode cL_law 924 = .ok (.iconst 5, 1) := by decide +kernel
theorem dL_law_925 : decode cL_law 925 = .ok (.iadd, 1) := by decide +kernel
theorem dL_law_926 : decode cL_law 926 = .ok (.iaload, 1) := by decide +kernel
theorem dL_law_927 : decode cL_law 927 = .ok (.ifCond .eq 7, 3) := by decide +kernel
theorem dL_law_930 : decode cL_law 930 = .ok (.iconst 1, 1) := by decide +kernel
theorem dL_law_931 : decode cL_law 931 = .ok (.goto 4, 3) := by decide +kernel
theorem dL_law_934 : decode cL_law 934 = .ok (.iconst 0, 1) := by decide +kernel
theorem dL_law_935 : decode cL_law 935 = .ok (.invokevirtual 121, 3) := by decide +kernel
theorem dL_law_938 : decode cL_law 938 = .ok (.if_icmp .eq 151, 3) := by decide +kernel
theorem dL_law_941 : decode cL_law 941 = .ok (.iconst 0, 1) := by decide +kernel
theorem dL_law_942 : decode cL_law 942 = .ok (.ireturn, 1) := by decide +kernel
theorem dL_law_943 : decode cL_law 943 = .ok (.aload_n 1, 1) := by decide +kernel
theorem dL_law_944 : decode cL_law 944 = .ok (.aload_n 0, 1) := by decide +kernel
theorem dL_law_945 : decode cL_law 945 = .ok (.iload_n 3, 1) := by decide +kernel
theorem dL_law_946 : decode cL_law 946 = .ok (.iconst 1, 1) := by decide +kernel
theorem dL_law_947 : decode cL_law 947 = .ok (.iadd, 1) := by decide +kernel
theorem dL_law_948 : decode cL_law 948 = .ok (.iaload, 1) := by decide +kernel
theorem dL_law_949 : decode cL_law 949 = .ok (.i2l, 1) := by decide +kernel
theorem dL_law_950 : decode cL_law 950 = .ok (.bipush 32, 2) := by decide +kernel
theorem dL_law_952 : decode cL_law 952 = .ok (.lshl, 1) := by decide +kernel
theorem dL_law_953 : decode cL_law 953 = .ok (.aload_n 0, 1) := by decide +kernel
theorem dL_law_954 : decode cL_law 954 = .ok (.iload_n 3, 1) := by decide +kernel
theorem dL_law_955 : decode cL_law 955 = .ok (.iconst 2, 1) := by decide +kernel
theorem dL_law_956 : decode cL_law 956 = .ok (.iadd, 1) := by decide +kernel
theorem dL_law_957 : decode cL_law 957 = .ok (.iaload, 1) := by decide +kernel
theorem dL_law_958 : decode cL_law 958 = .ok (.i2l, 1) := by decide +kernel
theorem dL_law_959 : decode cL_law 959 = .ok (.ldc2_w 122, 3) := by decide +kernel
theorem dL_law_962 : decode cL_law 962 = .ok (.land, 1) := by decide +kernel
theorem dL_law_963 : decode cL_law 963 = .ok (.lor, 1) := by decide +kernel
theorem dL_law_964 : decode cL_law 964 = .ok (.invokevirtual 124, 3) := by decide +kernel
theorem dL_law_967 : decode cL_law 967 = .ok (.aload_n 2, 1) := by decide +kernel
theorem dL_law_968 : decode cL_law 968 = .ok (.aload_n 0, 1) := by decide +kernel
theorem dL_law_969 : decode cL_law 969 = .ok (.iload_n 3, 1) := by decide +kernel
theorem dL_law_970 : decode cL_law 970 = .ok (.iconst 1, 1) := by decide +kernel
theorem dL_law_971 : decode cL_law 971 = .ok (.iadd, 1) := by decide +kernel
theorem dL_law_972 : decode cL_law 972 = .ok (.iaload, 1) := by decide +kernel
theorem dL_law_973 : decode cL_law 973 = .ok (.i2l, 1) := by decide +kernel
theorem dL_law_974 : decode cL_law 974 = .ok (.bipush 32, 2) := by decide +kernel
theorem dL_law_976 : decode cL_law 976 = .ok (.lshl, 1) := by decide +kernel
theorem dL_law_977 : decode cL_law 977 = .ok (.aload_n 0, 1) := by decide +kernel
theorem dL_law_978 : decode cL_law 978 = .ok (.iload_n 3, 1) := by decide +kernel
theorem dL_law_979 : decode cL_law 979 = .ok (.iconst 2, 1) := by decide +kernel
theorem dL_law_980 : decode cL_law 980 = .ok (.iadd, 1) := by decide +kernel
theorem dL_law_981 : decode cL_law 981 = .ok (.iaload, 1) := by decide +kernel
theorem dL_law_982 : decode cL_law 982 = .ok (.i2l, 1) := by decide +kernel
theorem dL_law_983 : decode cL_law 983 = .ok (.ldc2_w 122, 3) := by decide +kernel
theorem dL_law_986 : decode cL_law 986 = .ok (.land, 1) := by decide +kernel
theorem dL_law_987 : decode cL_law 987 = .ok (.lor, 1) := by decide +kernel
theorem dL_law_988 : decode cL_law 988 = .ok (.invokevirtual 128, 3) := by decide +kernel
theorem dL_law_991 : decode cL_law 991 = .ok (.lcmp, 1) := by decide +kernel
theorem dL_law_992 : decode cL_law 992 = .ok (.ifCond .eq 97, 3) := by decide +kernel
theorem dL_law_995 : decode cL_law 995 = .ok (.iconst 0, 1) := by decide +kernel
theorem dL_law_996 : decode cL_law 996 = .ok (.ireturn, 1) := by decide +kernel
theorem dL_law_997 : decode cL_law 997 = .ok (.aload_n 1, 1) := by decide +kernel
theorem dL_law_998 : decode cL_law 998 = .ok (.aload_n 0, 1) := by decide +kernel
theorem dL_law_999 : decode cL_law 999 = .ok (.iload_n 3, 1) := by decide +kernel
theorem dL_law_1000 : decode cL_law 1000 = .ok (.iconst 1, 1) := by decide +kernel
theorem dL_law_1001 : decode cL_law 1001 = .ok (.iadd, 1) := by decide +kernel
theorem dL_law_1002 : decode cL_law 1002 = .ok (.iaload, 1) := by decide +kernel
theorem dL_law_1003 : decode cL_law 1003 = .ok (.invokevirtual 129, 3) := by decide +kernel
theorem dL_law_1006 : decode cL_law 1006 = .ok (.aload_n 2, 1) := by decide +kernel
theorem dL_law_1007 : decode cL_law 1007 = .ok (.aload_n 0, 1) := by decide +kernel
theorem dL_law_1008 : decode cL_law 1008 = .ok (.iload_n 3, 1) := by decide +kernel
theorem dL_law_1009 : decode cL_law 1009 = .ok (.iconst 1, 1) := by decide +kernel
theorem dL_law_1010 : decode cL_law 1010 = .ok (.iadd, 1) := by decide +kernel
theorem dL_law_1011 : decode cL_law 1011 = .ok (.iaload, 1) := by decide +kernel
theorem dL_law_1012 : decode cL_law 1012 = .ok (.invokevirtual 132, 3) := by decide +kernel
theorem dL_law_1015 : decode cL_law 1015 = .ok (.if_icmp .eq 74, 3) := by decide +kernel
theorem dL_law_1018 : decode cL_law 1018 = .ok (.iconst 0, 1) := by decide +kernel
theorem dL_law_1019 : decode cL_law 1019 = .ok (.ireturn, 1) := by decide +kernel
theorem dL_law_1020 : decode cL_law 1020 = .ok (.aload_n 1, 1) := by decide +kernel
theorem dL_law_1021 : decode cL_law 1021 = .ok (.aload_n 0, 1) := by decide +kernel
theorem dL_law_1022 : decode cL_law 1022 = .ok (.iload_n 3, 1) := by decide +kernel
theorem dL_law_1023 : decode cL_law 1023 = .ok (.iconst 1, 1) := by decide +kernel
theorem dL_law_1024 : decode cL_law 1024 = .ok (.iadd, 1) := by decide +kernel
theorem dL_law_1025 : decode cL_law 1025 = .ok (.iaload, 1) := by decide +kernel
theorem dL_law_1026 : decode cL_law 1026 = .ok (.invokevirtual 133, 3) := by decide +kernel
theorem dL_law_1029 : decode cL_law 1029 = .ok (.aload_n 2, 1) := by decide +kernel
theorem dL_law_1030 : decode cL_law 1030 = .ok (.aload_n 0, 1) := by decide +kernel
theorem dL_law_1031 : decode cL_law 1031 = .ok (.iload_n 3, 1) := by decide +kernel
theorem dL_law_1032 : decode cL_law 1032 = .ok (.iconst 1, 1) := by decide +kernel
theorem dL_law_1033 : decode cL_law 1033 = .ok (.iadd, 1) := by decide +kernel
theorem dL_law_1034 : decode cL_law 1034 = .ok (.iaload, 1) := by decide +kernel
theorem dL_law_1035 : decode cL_law 1035 = .ok (.invokevirtual 136, 3) := by decide +kernel
theorem dL_law_1038 : decode cL_law 1038 = .ok (.if_icmp .eq 51, 3) := by decide +kernel
theorem dL_law_1041 : decode cL_law 1041 = .ok (.iconst 0, 1) := by decide +kernel
theorem dL_law_1042 : decode cL_law 1042 = .ok (.ireturn, 1) := by decide +kernel
theorem dL_law_1043 : decode cL_law 1043 = .ok (.aload_n 1, 1) := by decide +kernel
theorem dL_law_1044 : decode cL_law 1044 = .ok (.aload_n 0, 1) := by decide +kernel
theorem dL_law_1045 : decode cL_law 1045 = .ok (.iload_n 3, 1) := by decide +kernel
theorem dL_law_1046 : decode cL_law 1046 = .ok (.iconst 1, 1) := by decide +kernel
theorem dL_law_1047 : decode cL_law 1047 = .ok (.iadd, 1) := by decide +kernel
theorem dL_law_1048 : decode cL_law 1048 = .ok (.iaload, 1) := by decide +kernel
theorem dL_law_1049 : decode cL_law 1049 = .ok (.invokevirtual 137, 3) := by decide +kernel
theorem dL_law_1052 : decode cL_law 1052 = .ok (.aload_n 2, 1) := by decide +kernel
theorem dL_law_1053 : decode cL_law 1053 = .ok (.aload_n 0, 1) := by decide +kernel
theorem dL_law_1054 : decode cL_law 1054 = .ok (.iload_n 3, 1) := by decide +kernel
theorem dL_law_1055 : decode cL_law 1055 = .ok (.iconst 1, 1) := by decide +kernel
theorem dL_law_1056 : decode cL_law 1056 = .ok (.iadd, 1) := by decide +kernel
theorem dL_law_1057 : decode cL_law 1057 = .ok (.iaload, 1) := by decide +kernel
theorem dL_law_1058 : decode cL_law 1058 = .ok (.invokevirtual 140, 3) := by decide +kernel
theorem dL_law_1061 : decode cL_law 1061 = .ok (.if_icmp .eq 28, 3) := by decide +kernel
theorem dL_law_1064 : decode cL_law 1064 = .ok (.iconst 0, 1) := by decide +kernel
theorem dL_law_1065 : decode cL_law 1065 = .ok (.ireturn, 1) := by decide +kernel
theorem dL_law_1066 : decode cL_law 1066 = .ok (.aload_n 1, 1) := by decide +kernel
theorem dL_law_1067 : decode cL_law 1067 = .ok (.aload_n 0, 1) := by decide +kernel
theorem dL_law_1068 : decode cL_law 1068 = .ok (.iload_n 3, 1) := by decide +kernel
theorem dL_law_1069 : decode cL_law 1069 = .ok (.iconst 1, 1) := by decide +kernel
theorem dL_law_1070 : decode cL_law 1070 = .ok (.iadd, 1) := by decide +kernel
theorem dL_law_1071 : decode cL_law 1071 = .ok (.iaload, 1) := by decide +kernel
theorem dL_law_1072 : decode cL_law 1072 = .ok (.invokevirtual 141, 3) := by decide +kernel
theorem dL_law_1075 : decode cL_law 1075 = .ok (.aload_n 2, 1) := by decide +kernel
theorem dL_law_1076 : decode cL_law 1076 = .ok (.aload_n 0, 1) := by decide +kernel
theorem dL_law_1077 : decode cL_law 1077 = .ok (.iload_n 3, 1) := by decide +kernel
theorem dL_law_1078 : decode cL_law 1078 = .ok (.iconst 1, 1) := by decide +kernel
theorem dL_law_1079 : decode cL_law 1079 = .ok (.iadd, 1) := by decide +kernel
theorem dL_law_1080 : decode cL_law 1080 = .ok (.iaload, 1) := by decide +kernel
theorem dL_law_1081 : decode cL_law 1081 = .ok (.invokevirtual 144, 3) := by decide +kernel
theorem dL_law_1084 : decode cL_law 1084 = .ok (.if_icmp .eq 5, 3) := by decide +kernel
theorem dL_law_1087 : decode cL_law 1087 = .ok (.iconst 0, 1) := by decide +kernel
theorem dL_law_1088 : decode cL_law 1088 = .ok (.ireturn, 1) := by decide +kernel
theorem dL_law_1089 : decode cL_law 1089 = .ok (.iinc 3 6, 3) := by decide +kernel
theorem dL_law_1092 : decode cL_law 1092 = .ok (.goto (-1074), 3) := by decide +kernel
theorem dL_law_1095 : decode cL_law 1095 = .ok (.iconst 1, 1) := by decide +kernel
theorem dL_law_1096 : decode cL_law 1096 = .ok (.ireturn, 1) := by decide +kernel
abbrev vwCl : List vw_C := [(RX0, TX0, 7), (RX1, TX1, 5), (RX2, TX2, 5), (RX3, TX3, 1), (RX4, TX4, 2), (RX5, TX5, 6), (RX6, TX6, 3), (RX7, TX7, 3), (RX8, TX8, 2), (RX9, TX9, 13), (RX10, TX10, 34)]
end
section
/-! A program logic over pure memories: a system's cells are a fixed list (its shape), what they hold is a pair of functions (ints, longs) of cell and place; 'Vj' says of a method at an instruction that it comes to its end with Post; 'Ct' is a contract. Every row below is a row of the kit, said over these. -/
abbrev MI : Type := MethodName × ByteArray × Nat × Option FieldType
abbrev Mem : Type := (Nat → Nat → Int32) × (Nat → Nat → Int64)
abbrev Shp : Type := List ((Nat × Nat) ⊕ (Nat × List (Nat × Nat)))
abbrev Qe : Type := (Nat → Nat) × (Nat → Prop) × (Nat → ClassId) × (Nat → Nat → Nat) × ClassId × ClassId
def q_nestW : Cond → Bool
  | .fieldLinkNest .. => true
  | .methodLinkNest .. => true
  | _ => false
def lw_nest : List Cond := tables_1.filter q_nestW
def lw_big : List Cond := lw_tbl.filter goodWord
theorem big_of {w : Cond} (i : Nat) (h : lw_tbl[i]? = some w) (g : goodWord w = true) : w ∈ lw_big := List.mem_filter.mpr ⟨List.mem_of_getElem? h, g⟩
theorem nest_of {w : Cond} (i : Nat) (h : tables_1[i]? = some w) (g : q_nestW w = true) : w ∈ lw_nest := List.mem_filter.mpr ⟨List.mem_of_getElem? h, g⟩
theorem sub_of {ws : List Cond} (ps : List Nat) (hp : ws = ps.filterMap (fun i => lw_tbl[i]?)) (h : ws.all goodWord = true) : ∀ w ∈ ws, w ∈ lw_big := by
  intro w hw
  have h1 := List.all_eq_true.mp h w hw
  rw [hp] at hw
  obtain ⟨i, -, hi⟩ := List.mem_filterMap.mp hw
  exact big_of i hi h1
theorem big_good : ∀ w ∈ lw_big, (w.onTables && w.keeps) = true ∨ ∃ ty, w = .arrayClass ty := fun w h => good_of_word (List.mem_filter.mp h).2
def mWs (M : MI) : List Cond := .code M.1 M.2.1 M.2.2.1 M.2.2.2 :: lw_big
def rmd (d : Nat) : Room := { frames := d, cells := 0, slots := 0, locals := 36 * d }
/-! memories -/
def uI (σ : Mem) (q j : Nat) (x : Int32) : Mem := (fun q' => if q' = q then upd (σ.1 q) j x else σ.1 q', σ.2)
def uL (σ : Mem) (q j : Nat) (x : Int64) : Mem := (σ.1, fun q' => if q' = q then vp_updL (σ.2 q) j x else σ.2 q')
theorem uI_ne {σ : Mem} {q j i : Nat} {x : Int32} (h : i ≠ q) : (uI σ q j x).1 i = σ.1 i := by simp [uI, h]
theorem uI_eq {σ : Mem} {q j : Nat} {x : Int32} : (uI σ q j x).1 q = upd (σ.1 q) j x := by simp [uI]
theorem uL_ne {σ : Mem} {q j i : Nat} {x : Int64} (h : i ≠ q) : (uL σ q j x).2 i = σ.2 i := by simp [uL, h]
theorem uL_eq {σ : Mem} {q j : Nat} {x : Int64} : (uL σ q j x).2 q = vp_updL (σ.2 q) j x := by simp [uL]
def cvv (ad : Nat → Nat) : Value → Value
  | .ref a => .ref (ad a)
  | v => v
theorem cvv_cat (ad : Nat → Nat) (v : Value) : (cvv ad v).category = v.category := by cases v <;> rfl
def cvF (ad : Nat → Nat) (σ : Mem) (q k : Nat) (f : Nat × Nat) : Value := if f.1 = 0 then .int (σ.1 q k) else if f.1 = 1 then .long (σ.2 q k) else .ref (ad f.2)
def cvC (E : Qe) (σ : Mem) (q : Nat) : ((Nat × Nat) ⊕ (Nat × List (Nat × Nat))) → va_E
  | .inl x => .inl (if x.1 = 0 then E.2.2.2.2.1 else E.2.2.2.2.2, x.2, .inl (σ.1 q))
  | .inr o => .inr (o.1, o.2.mapIdx (fun k f => cvF E.1 σ q k f))
def wd (sh : Shp) (E : Qe) (σ : Mem) : va_W := sh.mapIdx (fun q c => (E.1 q, cvC E σ q c))
theorem wd_get {sh : Shp} {E : Qe} {σ : Mem} {q : Nat} {c : (Nat × Nat) ⊕ (Nat × List (Nat × Nat))} (h : sh[q]? = some c) : (wd sh E σ)[q]? = some (E.1 q, cvC E σ q c) := by
  simp [wd, List.getElem?_mapIdx, h]
theorem wd_some {sh : Shp} {E : Qe} {σ : Mem} {i : Nat} {p : Nat × va_E} (h : (wd sh E σ)[i]? = some p) : ∃ c, sh[i]? = some c ∧ p = (E.1 i, cvC E σ i c) := by
  simp only [wd, List.getElem?_mapIdx, Option.map_eq_some_iff] at h
  obtain ⟨c, h1, h2⟩ := h
  exact ⟨c, h1, h2.symm⟩
theorem wd_len {sh : Shp} {E : Qe} {σ : Mem} : (wd sh E σ).length = sh.length := by simp [wd]
theorem cvC_congr {E : Qe} {σ σ' : Mem} {i : Nat} {c : (Nat × Nat) ⊕ (Nat × List (Nat × Nat))} (h1 : σ.1 i = σ'.1 i) (h2 : σ.2 i = σ'.2 i) : cvC E σ i c = cvC E σ' i c := by
  cases c <;> simp [cvC, cvF, h1, h2]
theorem wd_ext {sh : Shp} {E : Qe} {σ σ' : Mem} {q : Nat} {e : va_E} {c0 : (Nat × Nat) ⊕ (Nat × List (Nat × Nat))} (hq : sh[q]? = some c0) (hc : cvC E σ' q c0 = e) (hne : ∀ i c, i ≠ q → cvC E σ i c = cvC E σ' i c) : (wd sh E σ).set q (E.1 q, e) = wd sh E σ' := by
  apply List.ext_getElem?
  intro i
  by_cases hi : i = q
  · subst hi
    have hl : i < (wd sh E σ).length := by rw [wd_len]; exact (List.getElem?_eq_some_iff.mp hq).1
    rw [List.getElem?_set_self hl, wd_get hq, hc]
  · rw [List.getElem?_set_ne (Ne.symm hi)]
    cases hs : sh[i]? with
    | none => simp [wd, List.getElem?_mapIdx, hs]
    | some c => rw [wd_get hs, wd_get hs, hne i c hi]
theorem wd_setA {sh : Shp} {E : Qe} {σ : Mem} {q kd n j : Nat} {x : Int32} (hq : sh[q]? = some (.inl (kd, n))) : (wd sh E σ).set q (E.1 q, .inl (if kd = 0 then E.2.2.2.2.1 else E.2.2.2.2.2, n, .inl (upd (σ.1 q) j x))) = wd sh E (uI σ q j x) :=
  wd_ext hq (by simp [cvC, uI_eq]) (fun i c hi => cvC_congr (uI_ne hi).symm rfl)
theorem wd_setF {sh : Shp} {E : Qe} {σ : Mem} {q ci k z : Nat} {fs : List (Nat × Nat)} {x : Int32} (hq : sh[q]? = some (.inr (ci, fs))) (hf : fs[k]? = some (0, z)) : (wd sh E σ).set q (E.1 q, .inr (ci, (fs.mapIdx (fun k f => cvF E.1 σ q k f)).set k (.int x))) = wd sh E (uI σ q k x) := by
  refine wd_ext hq ?_ (fun i c hi => cvC_congr (uI_ne hi).symm rfl)
  show Sum.inr (ci, fs.mapIdx (fun k' f => cvF E.1 (uI σ q k x) q k' f)) = _
  refine congrArg (fun l => Sum.inr (ci, l)) ?_
  apply List.ext_getElem?
  intro i
  by_cases hi : i = k
  · subst hi
    rw [List.getElem?_set_self (by simpa using (List.getElem?_eq_some_iff.mp hf).1), List.getElem?_mapIdx, hf]
    simp [cvF, uI_eq, upd]
  · rw [List.getElem?_set_ne (Ne.symm hi), List.getElem?_mapIdx, List.getElem?_mapIdx]
    cases fs[i]? with
    | none => rfl
    | some f => simp [cvF, uI, upd, hi]
theorem wd_setG {sh : Shp} {E : Qe} {σ : Mem} {q ci k z : Nat} {fs : List (Nat × Nat)} {x : Int64} (hq : sh[q]? = some (.inr (ci, fs))) (hf : fs[k]? = some (1, z)) : (wd sh E σ).set q (E.1 q, .inr (ci, (fs.mapIdx (fun k f => cvF E.1 σ q k f)).set k (.long x))) = wd sh E (uL σ q k x) := by
  refine wd_ext hq ?_ (fun i c hi => cvC_congr rfl (uL_ne hi).symm)
  show Sum.inr (ci, fs.mapIdx (fun k' f => cvF E.1 (uL σ q k x) q k' f)) = _
  refine congrArg (fun l => Sum.inr (ci, l)) ?_
  apply List.ext_getElem?
  intro i
  by_cases hi : i = k
  · subst hi
    rw [List.getElem?_set_self (by simpa using (List.getElem?_eq_some_iff.mp hf).1), List.getElem?_mapIdx, hf]
    simp [cvF, uL_eq, vp_updL]
  · rw [List.getElem?_set_ne (Ne.symm hi), List.getElem?_mapIdx, List.getElem?_mapIdx]
    cases fs[i]? with
    | none => rfl
    | some f => simp [cvF, uL, vp_updL, hi]
theorem wd_D {A : Nat → Prop} {sh : Shp} {E : Qe} {σ σ' : Mem} (h : va_D A (wd sh E σ)) : va_D A (wd sh E σ') := by
  refine ⟨fun i j p q hi hj hpq => ?_, fun k q hk => ?_⟩
  · obtain ⟨c1, a1, rfl⟩ := wd_some hi
    obtain ⟨c2, a2, rfl⟩ := wd_some hj
    exact h.1 i j _ _ (wd_get a1) (wd_get a2) hpq
  · obtain ⟨c, a, rfl⟩ := wd_some hk
    exact h.2 k (E.1 k, cvC E σ k c) (wd_get a)
/-! locals -/
def Lh (ls : Array Slot) (n : Nat) (ad : Nat → Nat) (l : List (Option Value)) : Prop := ls.size = n ∧ lv_wf ls ∧ ∀ (i : Nat) (v : Value), l[i]? = some (some v) → ls[i]? = some (.val (cvv ad v))
def prs (ad : Nat → Nat) : Nat → List (Option Value) → List (Nat × Value)
  | _, [] => []
  | o, none :: l => prs ad (o + 1) l
  | o, some v :: l => (o, cvv ad v) :: prs ad (o + 1) l
theorem prs_mem {ad : Nat → Nat} {i : Nat} {w : Value} : ∀ (l : List (Option Value)) (o : Nat), (i, w) ∈ prs ad o l ↔ ∃ j v, i = o + j ∧ l[j]? = some (some v) ∧ w = cvv ad v
  | [], o => by simp [prs]
  | none :: l, o => by
    rw [prs, prs_mem l (o + 1)]
    constructor
    · rintro ⟨j, v, rfl, h1, h2⟩
      exact ⟨j + 1, v, by omega, by simpa using h1, h2⟩
    · rintro ⟨j, v, rfl, h1, h2⟩
      cases j with
      | zero => simp at h1
      | succ j => exact ⟨j, v, by omega, by simpa using h1, h2⟩
  | some u :: l, o => by
    rw [prs, List.mem_cons, prs_mem l (o + 1)]
    constructor
    · rintro (h | ⟨j, v, rfl, h1, h2⟩)
      · cases h
        exact ⟨0, u, by omega, by simp, rfl⟩
      · exact ⟨j + 1, v, by omega, by simpa using h1, h2⟩
    · rintro ⟨j, v, rfl, h1, h2⟩
      cases j with
      | zero => simp at h1; subst h1; exact Or.inl (by rw [h2]; rfl)
      | succ j => exact Or.inr ⟨j, v, by omega, by simpa using h1, h2⟩
theorem Lh.has {ls : Array Slot} {n : Nat} {ad : Nat → Nat} {l : List (Option Value)} (h : Lh ls n ad l) : lv_has ls n (prs ad 0 l) := by
  refine ⟨h.1, h.2.1, fun q hq => ?_⟩
  obtain ⟨j, v, h1, h2, h3⟩ := (prs_mem (i := q.1) (w := q.2) l 0).mp hq
  rw [h3, h1, Nat.zero_add]
  exact h.2.2 j v h2
def okP (l : List (Option Value)) : Nat → Bool
  | 0 => true
  | i + 1 => match l[i]? with
    | some (some v) => !(v.category == 2)
    | _ => true
theorem okP_ne {l : List (Option Value)} {i j : Nat} {v : Value} (h : okP l i = true) (hj : l[j]? = some (some v)) (e : j + 1 = i) : ¬ v.category = 2 := by
  subst e
  simpa [okP, hj] using h
theorem Lh_back1 {ls' : Array Slot} {n : Nat} {ad : Nat → Nat} {l : List (Option Value)} {i : Nat} {v w : Value} (hw : w = cvv ad v) (hk : okP l i = true) (h : lv_has ls' n ((i, w) :: (prs ad 0 l).filter (fun q => !(q.1 == i) && !(q.1 + 1 == i && q.2.category == 2)))) : Lh ls' n ad (l.set i (some v)) := by
  refine ⟨h.1, h.2.1, fun j u hj => ?_⟩
  by_cases hji : j = i
  · subst hji
    have hl : j < l.length := by
      have := (List.getElem?_eq_some_iff.mp hj).1
      simpa using this
    rw [List.getElem?_set_self hl] at hj
    cases hj
    have := h.2.2 _ List.mem_cons_self
    rw [← hw]
    exact this
  · rw [List.getElem?_set_ne (Ne.symm hji)] at hj
    refine h.2.2 (j, cvv ad u) (List.mem_cons_of_mem _ (List.mem_filter.mpr ⟨(prs_mem l 0).mpr ⟨j, u, by omega, hj, rfl⟩, ?_⟩))
    simp [hji, cvv_cat]
    by_cases e : j + 1 = i
    · exact Or.inr (okP_ne hk hj e)
    · exact Or.inl e
theorem Lh_back2 {ls' : Array Slot} {n : Nat} {ad : Nat → Nat} {l : List (Option Value)} {i : Nat} {v w : Value} (hw : w = cvv ad v) (hk : okP l i = true) (h : lv_has ls' n ((i, w) :: (prs ad 0 l).filter (fun q => !(q.1 == i) && (!(q.1 == i + 1) && !(q.1 + 1 == i && q.2.category == 2))))) : Lh ls' n ad ((l.set i (some v)).set (i + 1) none) := by
  refine ⟨h.1, h.2.1, fun j u hj => ?_⟩
  by_cases hj2 : j = i + 1
  · subst hj2
    have hl : i + 1 < (l.set i (some v)).length := by
      have := (List.getElem?_eq_some_iff.mp hj).1
      simpa using this
    rw [List.getElem?_set_self hl] at hj
    cases hj
  · rw [List.getElem?_set_ne (Ne.symm hj2)] at hj
    by_cases hji : j = i
    · subst hji
      have hl : j < l.length := by
        have := (List.getElem?_eq_some_iff.mp hj).1
        simpa using this
      rw [List.getElem?_set_self hl] at hj
      cases hj
      have := h.2.2 _ List.mem_cons_self
      rw [← hw]
      exact this
    · rw [List.getElem?_set_ne (Ne.symm hji)] at hj
      refine h.2.2 (j, cvv ad u) (List.mem_cons_of_mem _ (List.mem_filter.mpr ⟨(prs_mem l 0).mpr ⟨j, u, by omega, hj, rfl⟩, ?_⟩))
      simp [hji, hj2, cvv_cat]
      by_cases e : j + 1 = i
      · exact Or.inr (okP_ne hk hj e)
      · exact Or.inl e
/-! a method's entry -/
def entL (av : List Value) : List (Option Value) := av.flatMap (fun v => if v.category = 2 then [some v, none] else [some v])
def entP (n : Nat) (av : List Value) : List (Option Value) := entL av ++ List.replicate (n - (entL av).length) none
theorem ent_mem (ad : Nat → Nat) : ∀ (av : List Value) (o i : Nat) (v : Value), (entL av)[i]? = some (some v) → (o + i, cvv ad v) ∈ lv_args o (av.map (cvv ad))
  | [], o, i, v, h => by simp [entL] at h
  | u :: av, o, i, v, h => by
    rw [List.map_cons, lv_args, cvv_cat]
    by_cases hc : u.category = 2
    · have e : entL (u :: av) = some u :: none :: entL av := by simp [entL, hc]
      rw [e] at h
      rw [if_pos hc]
      match i, h with
      | 0, h => simp at h; subst h; exact List.mem_cons_self
      | 1, h => simp at h
      | j + 2, h =>
        have := ent_mem ad av (o + 2) j v (by simpa using h)
        rw [show o + (j + 2) = o + 2 + j by omega]
        exact List.mem_cons_of_mem _ this
    · have e : entL (u :: av) = some u :: entL av := by simp [entL, hc]
      rw [e] at h
      rw [if_neg hc]
      match i, h with
      | 0, h => simp at h; subst h; exact List.mem_cons_self
      | j + 1, h =>
        have := ent_mem ad av (o + 1) j v (by simpa using h)
        rw [show o + (j + 1) = o + 1 + j by omega]
        exact List.mem_cons_of_mem _ this
theorem ent_pad {n i : Nat} {v : Value} {av : List Value} (h : (entP n av)[i]? = some (some v)) : (entL av)[i]? = some (some v) := by
  unfold entP at h
  by_cases hi : i < (entL av).length
  · rwa [List.getElem?_append_left hi] at h
  · rw [List.getElem?_append_right (by omega)] at h
    have := List.eq_of_mem_replicate (List.mem_of_getElem? h)
    cases this
theorem ent_len (ad : Nat → Nat) : ∀ av : List Value, (lg_sl (av.map (cvv ad))).length = (entL av).length
  | [] => rfl
  | u :: av => by
    have ih := ent_len ad av
    have e1 : lg_sl ((u :: av).map (cvv ad)) = lg_sl [cvv ad u] ++ lg_sl (av.map (cvv ad)) := by simp [lg_sl]
    have e2 : entL (u :: av) = entL [u] ++ entL av := by simp [entL]
    rw [e1, e2, List.length_append, List.length_append, ih]
    congr 1
    simp only [lg_sl, entL, List.flatMap_cons, List.flatMap_nil, List.append_nil, cvv_cat]
    split <;> rfl
theorem Lh_entry {ls : Array Slot} {n : Nat} {ad : Nat → Nat} {av : List Value} (h : lv_has ls n (lv_args 0 (av.map (cvv ad)))) : Lh ls n ad (entP n av) :=
  ⟨h.1, h.2.1, fun i v hi => by
    have := ent_mem ad av 0 i v (ent_pad hi)
    rw [Nat.zero_add] at this
    exact h.2.2 _ this⟩
/-! the static tables, the classes, the links of nest mates -/
def tTENS (j : Nat) : Int32 := [1, 10, 100, 1000, 10000, 100000, 1000000].getD j 0
def tORD (j : Nat) : Int32 := [1, 1, 2, 6, 24, 120, 720].getD j 0
def Sx (E : Qe) (U : State) (H : Heap) : Prop :=
  va_K (E.2.2.1, E.2.2.2.1) vwCl [(E.2.2.2.2.1, .int), (E.2.2.2.2.2, .boolean)] U ∧ (∀ w ∈ lw_nest, va_Nw w U) ∧
  (va_Z "FiveRemotes" "TENS" "[I" (.ref (E.1 1000)) E.2.1 U H ∧ va_T .int (E.1 1000) 7 (fun j => .int (tTENS j)) E.2.1 U H) ∧
  va_Z "FiveRemotes" "ORDERS" "[I" (.ref (E.1 1001)) E.2.1 U H ∧ va_T .int (E.1 1001) 7 (fun j => .int (tORD j)) E.2.1 U H
theorem nest_go {s U : State} (hW : s.WarmedH U.vm) (h : ∀ w ∈ lw_nest, va_Nw w s) : ∀ w ∈ lw_nest, va_Nw w U := by
  intro w hw
  have h1 := h w hw
  have hn := (List.mem_filter.mp hw).2
  cases w <;> first
    | exact va_Nw.warmF hW h1
    | exact va_Nw.warmM hW h1
    | (exfalso; revert hn; simp [q_nestW])
theorem nest_same {s U : State} (hv : s.vm = U.vm) (h : ∀ w ∈ lw_nest, va_Nw w s) : ∀ w ∈ lw_nest, va_Nw w U := by
  intro w hw
  have h1 := h w hw
  have hn := (List.mem_filter.mp hw).2
  cases w <;> first
    | exact va_Nw.same rfl hv h1
    | (exfalso; revert hn; simp [q_nestW])
theorem Sx.go {E : Qe} {s U : State} {H0 H : Heap} (hA : s.vm.Alike U.vm) (hN : ∀ w ∈ lw_nest, va_Nw w U) (hq : ∀ a : Nat, a < H0.size → ¬ E.2.1 a → H[a]? = H0[a]?) (h : Sx E s H0) : Sx E U H :=
  ⟨va_K.moved hA h.1, hN, ⟨(va_Z.moved hA h.2.2.1.1).kept hq, (va_T.moved hA h.2.2.1.2).kept hq⟩, (va_Z.moved hA h.2.2.2.1).kept hq, (va_T.moved hA h.2.2.2.2).kept hq⟩
def Cx (E : Qe) (M : MI) (p : Program) (s : State) (m : MethodId) (args : Array Value) (meth : Method) (c : Code) : Prop :=
  p.tables.exec = Jvm.exec ∧ c.code = M.2.1 ∧ c.maxLocals = M.2.2.1 ∧ meth.sig.returnType = M.2.2.2 ∧ meth.locks = false ∧ s.vm.findClass M.1.cls = some m.cls ∧ (∀ w ∈ mWs M, w.before args s = true) ∧ Sx E s s.heap
def Hx (sh : Shp) (E : Qe) (σ : Mem) (s : State) (H : Heap) (locs : List Loc) : Prop :=
  va_P (E.2.2.1, E.2.2.2.1) vwCl (wd sh E σ) H ∧ va_D E.2.1 (wd sh E σ) ∧ va_S E.2.1 s.heap H locs
def Qx (sh : Shp) (E : Qe) (Post : Option Value → Mem → Prop) : Array Value → State → Outcome → State → Prop := fun _ st oc t =>
  (∃ (r : Option Value) (σ' : Mem), oc = .returned (r.map (cvv E.1)) ∧ Post r σ' ∧ va_P (E.2.2.1, E.2.2.2.1) vwCl (wd sh E σ') t.heap) ∧ va_F E.2.1 st t
def Px (sh : Shp) (E : Qe) (σ : Mem) (U : State) : Prop := va_P (E.2.2.1, E.2.2.2.1) vwCl (wd sh E σ) U.heap ∧ va_D E.2.1 (wd sh E σ) ∧ Sx E U U.heap
/-- a contract: at any depth from k on -/
def Ct (sh : Shp) (k : Nat) (M : MI) (av : List Value) (σ : Mem) (Post : Option Value → Mem → Prop) : Prop :=
  ∀ d : Nat, k ≤ d → ∀ (E : Qe) (la : Launch), Met la M.1 (mWs M) (rmd d) (va_Pc (av.map (cvv E.1)) (Px sh E σ)) (Qx sh E Post) 0 0 E.2.1
/-- at an instruction: from here the method comes to its end with Post -/
def Vj (sh : Shp) (k : Nat) (M : MI) (Post : Option Value → Mem → Prop) (pc : Nat) (l : List (Option Value)) (st : List Value) (σ : Mem) : Prop :=
  ∀ d : Nat, k ≤ d → ∀ (E : Qe) (p : Program) (la : Launch) (e : Jvm.Env) (s : State) (m : MethodId) (args : Array Value) (below : List Frame) (meth : Method) (c : Code) (H : Heap) (locs : List Loc) (ls : Array Slot),
    Cx E M p s m args meth c → Hx sh E σ s H locs → Lh ls M.2.2.1 E.1 l →
    W p la e (rmd d) s m args below meth c H locs 0 0 (MQ below (Qx sh E Post) args s 0 0 E.2.1) (F0 m pc ls (st.map (cvv E.1)))
theorem Ct.of {sh : Shp} {k : Nat} {M : MI} {av : List Value} {σ : Mem} {Post : Option Value → Mem → Prop} {l : List (Option Value)} (hy : plainName M.1.cls = true) (hn : (entL av).length ≤ M.2.2.1) (hl : entP M.2.2.1 av = l) (h : Vj sh k M Post 0 l [] σ) : Ct sh k M av σ Post := by
  subst hl
  intro d hd E la
  refine Met.ofW (cc := M.2.1) (maxL := M.2.2.1) (ret := M.2.2.2) (ws' := lw_big) hy rfl ?_
  intro p e s m args below meth c s₁ B hml hv
  obtain ⟨rfl, hP, hD, hS⟩ := hv
  have hts := atoms_spec (ws := mWs M) B.pre
  have hC : Cx E M p s m (av.map (cvv E.1)).toArray meth c := ⟨B.exec, B.bytes, hml, B.returns, B.notSynchronized, findClass_of_methodNamed B.named, hts, hS⟩
  have hl := lv_entry (av.map (cvv E.1)) (n := M.2.2.1) (by rw [ent_len]; exact hn)
  rw [lg_entry_eq]
  exact h d hd E p la e s m _ below meth c s.heap [] _ hC ⟨hP, hD, va_S.rf⟩ (Lh_entry hl)

theorem Vj_iconst {sh : Shp} {kd : Nat} {M : MI} {Post : Option Value → Mem → Prop} {pc q : Nat} {l : List (Option Value)} {st : List Value} {σ : Mem} {n : Int} {v : Int32} (h : decode M.2.1 pc = .ok (.iconst n, 1)) (hp : pc + 1 = q) (hv : Int32.ofInt n = v) (k : Vj sh kd M Post q l (.int v :: st) σ) : Vj sh kd M Post pc l st σ := by
  subst hp
  intro d hd E p la e s m args below meth c H locs ls hC hH hL
  exact lv_iconst hC.1 hC.2.1 h hv (k d hd E p la e s m args below meth c H locs ls hC hH hL)
theorem Vj_bipush {sh : Shp} {kd : Nat} {M : MI} {Post : Option Value → Mem → Prop} {pc q : Nat} {l : List (Option Value)} {st : List Value} {σ : Mem} {n : Int} {v : Int32} (h : decode M.2.1 pc = .ok (.bipush n, 2)) (hp : pc + 2 = q) (hv : (Int8.ofInt n).toInt32 = v) (k : Vj sh kd M Post q l (.int v :: st) σ) : Vj sh kd M Post pc l st σ := by
  subst hp
  intro d hd E p la e s m args below meth c H locs ls hC hH hL
  exact lv_bipush hC.1 hC.2.1 h hv (k d hd E p la e s m args below meth c H locs ls hC hH hL)
theorem Vj_sipush {sh : Shp} {kd : Nat} {M : MI} {Post : Option Value → Mem → Prop} {pc q : Nat} {l : List (Option Value)} {st : List Value} {σ : Mem} {n : Int} {v : Int32} (h : decode M.2.1 pc = .ok (.sipush n, 3)) (hp : pc + 3 = q) (hv : (Int16.ofInt n).toInt32 = v) (k : Vj sh kd M Post q l (.int v :: st) σ) : Vj sh kd M Post pc l st σ := by
  subst hp
  intro d hd E p la e s m args below meth c H locs ls hC hH hL
  exact lv_sipush hC.1 hC.2.1 h hv (k d hd E p la e s m args below meth c H locs ls hC hH hL)
theorem Vj_lconst {sh : Shp} {kd : Nat} {M : MI} {Post : Option Value → Mem → Prop} {pc q : Nat} {l : List (Option Value)} {st : List Value} {σ : Mem} {n : Fin 2} {v : Int64} (h : decode M.2.1 pc = .ok (.lconst n, 1)) (hp : pc + 1 = q) (hv : Int64.ofNat (n : Nat) = v) (k : Vj sh kd M Post q l (.long v :: st) σ) : Vj sh kd M Post pc l st σ := by
  subst hp
  intro d hd E p la e s m args below meth c H locs ls hC hH hL
  exact lv_lconst hC.1 hC.2.1 h hv (k d hd E p la e s m args below meth c H locs ls hC hH hL)
theorem Vj_ldc2 {sh : Shp} {kd : Nat} {M : MI} {Post : Option Value → Mem → Prop} {pc q : Nat} {l : List (Option Value)} {st : List Value} {σ : Mem} {ix : Nat} {v : Int64} (h : decode M.2.1 pc = .ok (.ldc2_w ix, 3)) (hp : pc + 3 = q) (hw : Cond.constantLong M.1.cls ix v ∈ lw_big) (k : Vj sh kd M Post q l (.long v :: st) σ) : Vj sh kd M Post pc l st σ := by
  subst hp
  intro d hd E p la e s m args below meth c H locs ls hC hH hL
  exact lv_ldc2 hC.1 hC.2.1 hC.2.2.2.2.2.1 (hC.2.2.2.2.2.2.1 _ (List.mem_cons_of_mem _ hw)) h (k d hd E p la e s m args below meth c H locs ls hC hH hL)
theorem Vj_ldcw {sh : Shp} {kd : Nat} {M : MI} {Post : Option Value → Mem → Prop} {pc q : Nat} {l : List (Option Value)} {st : List Value} {σ : Mem} {ix : Nat} {v : Int32} (h : decode M.2.1 pc = .ok (.ldc_w ix, 3)) (hp : pc + 3 = q) (hw : Cond.constant M.1.cls ix v ∈ lw_big) (k : Vj sh kd M Post q l (.int v :: st) σ) : Vj sh kd M Post pc l st σ := by
  subst hp
  intro d hd E p la e s m args below meth c H locs ls hC hH hL
  intro T hT X
  obtain ⟨t, a, b⟩ := k d hd E p la e s m args below meth c H locs ls hC hH hL T hT X
  refine ⟨t, ?_, b⟩
  exact va_ldcwI X hC.1 hC.2.2.2.2.2.1 (hC.2.2.2.2.2.2.1 _ (List.mem_cons_of_mem _ hw)) (g := F0 m pc ls (st.map (cvv E.1))) rfl (by rw [hC.2.1]; exact h) t a
theorem Vj_iloadn {sh : Shp} {kd : Nat} {M : MI} {Post : Option Value → Mem → Prop} {pc q : Nat} {l : List (Option Value)} {st : List Value} {σ : Mem} {i : Nat} {k4 : Fin 4} {x : Int32} (h : decode M.2.1 pc = .ok (.iload_n k4, 1)) (hp : pc + 1 = q) (hi : (k4 : Nat) = i) (hl : l[i]? = some (some (.int x))) (k : Vj sh kd M Post q l (.int x :: st) σ) : Vj sh kd M Post pc l st σ := by
  subst hp
  intro d hd E p la e s m args below meth c H locs ls hC hH hL
  exact lv_iload_n hC.1 hC.2.1 h hi (hL.2.2 i _ hl) (k d hd E p la e s m args below meth c H locs ls hC hH hL)
theorem Vj_iload {sh : Shp} {kd : Nat} {M : MI} {Post : Option Value → Mem → Prop} {pc q : Nat} {l : List (Option Value)} {st : List Value} {σ : Mem} {i : Nat} {x : Int32} (h : decode M.2.1 pc = .ok (.iload i, 2)) (hp : pc + 2 = q) (hl : l[i]? = some (some (.int x))) (k : Vj sh kd M Post q l (.int x :: st) σ) : Vj sh kd M Post pc l st σ := by
  subst hp
  intro d hd E p la e s m args below meth c H locs ls hC hH hL
  exact lv_iload hC.1 hC.2.1 h (hL.2.2 i _ hl) (k d hd E p la e s m args below meth c H locs ls hC hH hL)
theorem Vj_lloadn {sh : Shp} {kd : Nat} {M : MI} {Post : Option Value → Mem → Prop} {pc q : Nat} {l : List (Option Value)} {st : List Value} {σ : Mem} {i : Nat} {k4 : Fin 4} {x : Int64} (h : decode M.2.1 pc = .ok (.lload_n k4, 1)) (hp : pc + 1 = q) (hi : (k4 : Nat) = i) (hl : l[i]? = some (some (.long x))) (k : Vj sh kd M Post q l (.long x :: st) σ) : Vj sh kd M Post pc l st σ := by
  subst hp
  intro d hd E p la e s m args below meth c H locs ls hC hH hL
  exact lv_lload_n hC.1 hC.2.1 h hi (hL.2.2 i _ hl) (k d hd E p la e s m args below meth c H locs ls hC hH hL)
theorem Vj_lload {sh : Shp} {kd : Nat} {M : MI} {Post : Option Value → Mem → Prop} {pc q : Nat} {l : List (Option Value)} {st : List Value} {σ : Mem} {i : Nat} {x : Int64} (h : decode M.2.1 pc = .ok (.lload i, 2)) (hp : pc + 2 = q) (hl : l[i]? = some (some (.long x))) (k : Vj sh kd M Post q l (.long x :: st) σ) : Vj sh kd M Post pc l st σ := by
  subst hp
  intro d hd E p la e s m args below meth c H locs ls hC hH hL
  exact lv_lload hC.1 hC.2.1 h (hL.2.2 i _ hl) (k d hd E p la e s m args below meth c H locs ls hC hH hL)
theorem Vj_aloadn {sh : Shp} {kd : Nat} {M : MI} {Post : Option Value → Mem → Prop} {pc q : Nat} {l : List (Option Value)} {st : List Value} {σ : Mem} {i : Nat} {k4 : Fin 4} {x : Nat} (h : decode M.2.1 pc = .ok (.aload_n k4, 1)) (hp : pc + 1 = q) (hi : (k4 : Nat) = i) (hl : l[i]? = some (some (.ref x))) (k : Vj sh kd M Post q l (.ref x :: st) σ) : Vj sh kd M Post pc l st σ := by
  subst hp
  intro d hd E p la e s m args below meth c H locs ls hC hH hL
  exact lv_aload_n hC.1 hC.2.1 h hi (hL.2.2 i _ hl) (k d hd E p la e s m args below meth c H locs ls hC hH hL)
theorem Vj_aload {sh : Shp} {kd : Nat} {M : MI} {Post : Option Value → Mem → Prop} {pc q : Nat} {l : List (Option Value)} {st : List Value} {σ : Mem} {i : Nat} {x : Nat} (h : decode M.2.1 pc = .ok (.aload i, 2)) (hp : pc + 2 = q) (hl : l[i]? = some (some (.ref x))) (k : Vj sh kd M Post q l (.ref x :: st) σ) : Vj sh kd M Post pc l st σ := by
  subst hp
  intro d hd E p la e s m args below meth c H locs ls hC hH hL
  exact lv_aload hC.1 hC.2.1 h (hL.2.2 i _ hl) (k d hd E p la e s m args below meth c H locs ls hC hH hL)
theorem Vj_istoren {sh : Shp} {kd : Nat} {M : MI} {Post : Option Value → Mem → Prop} {pc q : Nat} {l : List (Option Value)} {st : List Value} {σ : Mem} {i : Nat} {k4 : Fin 4} {x : Int32} (h : decode M.2.1 pc = .ok (.istore_n k4, 1)) (hp : pc + 1 = q) (hi : (k4 : Nat) = i) (hn : i < M.2.2.1) (hk : okP l i = true) (k : Vj sh kd M Post q (l.set i (some (.int x))) st σ) : Vj sh kd M Post pc l (.int x :: st) σ := by
  subst hp
  intro d hd E p la e s m args below meth c H locs ls hC hH hL
  exact lv_istore_n hC.1 hC.2.1 h hi hL.has hn rfl (fun ls' hl' => k d hd E p la e s m args below meth c H locs ls' hC hH (Lh_back1 rfl hk hl'))
theorem Vj_istore {sh : Shp} {kd : Nat} {M : MI} {Post : Option Value → Mem → Prop} {pc q : Nat} {l : List (Option Value)} {st : List Value} {σ : Mem} {i : Nat} {x : Int32} (h : decode M.2.1 pc = .ok (.istore i, 2)) (hp : pc + 2 = q) (hn : i < M.2.2.1) (hk : okP l i = true) (k : Vj sh kd M Post q (l.set i (some (.int x))) st σ) : Vj sh kd M Post pc l (.int x :: st) σ := by
  subst hp
  intro d hd E p la e s m args below meth c H locs ls hC hH hL
  exact lv_istore hC.1 hC.2.1 h hL.has hn rfl (fun ls' hl' => k d hd E p la e s m args below meth c H locs ls' hC hH (Lh_back1 rfl hk hl'))
theorem Vj_astoren {sh : Shp} {kd : Nat} {M : MI} {Post : Option Value → Mem → Prop} {pc q : Nat} {l : List (Option Value)} {st : List Value} {σ : Mem} {i : Nat} {k4 : Fin 4} {x : Nat} (h : decode M.2.1 pc = .ok (.astore_n k4, 1)) (hp : pc + 1 = q) (hi : (k4 : Nat) = i) (hn : i < M.2.2.1) (hk : okP l i = true) (k : Vj sh kd M Post q (l.set i (some (.ref x))) st σ) : Vj sh kd M Post pc l (.ref x :: st) σ := by
  subst hp
  intro d hd E p la e s m args below meth c H locs ls hC hH hL
  exact lv_astore_n hC.1 hC.2.1 h hi hL.has hn rfl (fun ls' hl' => k d hd E p la e s m args below meth c H locs ls' hC hH (Lh_back1 rfl hk hl'))
theorem Vj_astore {sh : Shp} {kd : Nat} {M : MI} {Post : Option Value → Mem → Prop} {pc q : Nat} {l : List (Option Value)} {st : List Value} {σ : Mem} {i : Nat} {x : Nat} (h : decode M.2.1 pc = .ok (.astore i, 2)) (hp : pc + 2 = q) (hn : i < M.2.2.1) (hk : okP l i = true) (k : Vj sh kd M Post q (l.set i (some (.ref x))) st σ) : Vj sh kd M Post pc l (.ref x :: st) σ := by
  subst hp
  intro d hd E p la e s m args below meth c H locs ls hC hH hL
  exact lv_astore hC.1 hC.2.1 h hL.has hn rfl (fun ls' hl' => k d hd E p la e s m args below meth c H locs ls' hC hH (Lh_back1 rfl hk hl'))
theorem Vj_lstoren {sh : Shp} {kd : Nat} {M : MI} {Post : Option Value → Mem → Prop} {pc q : Nat} {l : List (Option Value)} {st : List Value} {σ : Mem} {i : Nat} {k4 : Fin 4} {x : Int64} (h : decode M.2.1 pc = .ok (.lstore_n k4, 1)) (hp : pc + 1 = q) (hi : (k4 : Nat) = i) (hn : i + 1 < M.2.2.1) (hk : okP l i = true) (k : Vj sh kd M Post q ((l.set i (some (.long x))).set (i + 1) none) st σ) : Vj sh kd M Post pc l (.long x :: st) σ := by
  subst hp
  intro d hd E p la e s m args below meth c H locs ls hC hH hL
  exact lv_lstore_n hC.1 hC.2.1 h hi hL.has hn rfl (fun ls' hl' => k d hd E p la e s m args below meth c H locs ls' hC hH (Lh_back2 rfl hk hl'))
theorem Vj_lstore {sh : Shp} {kd : Nat} {M : MI} {Post : Option Value → Mem → Prop} {pc q : Nat} {l : List (Option Value)} {st : List Value} {σ : Mem} {i : Nat} {x : Int64} (h : decode M.2.1 pc = .ok (.lstore i, 2)) (hp : pc + 2 = q) (hn : i + 1 < M.2.2.1) (hk : okP l i = true) (k : Vj sh kd M Post q ((l.set i (some (.long x))).set (i + 1) none) st σ) : Vj sh kd M Post pc l (.long x :: st) σ := by
  subst hp
  intro d hd E p la e s m args below meth c H locs ls hC hH hL
  exact lv_lstore hC.1 hC.2.1 h hL.has hn rfl (fun ls' hl' => k d hd E p la e s m args below meth c H locs ls' hC hH (Lh_back2 rfl hk hl'))
theorem Vj_iinc {sh : Shp} {kd : Nat} {M : MI} {Post : Option Value → Mem → Prop} {pc q : Nat} {l : List (Option Value)} {st : List Value} {σ : Mem} {i : Nat} {n : Int} {x v : Int32} (h : decode M.2.1 pc = .ok (.iinc i n, 3)) (hp : pc + 3 = q) (hl : l[i]? = some (some (.int x))) (hv : x + Int32.ofInt n = v) (hn : i < M.2.2.1) (hk : okP l i = true) (k : Vj sh kd M Post q (l.set i (some (.int v))) st σ) : Vj sh kd M Post pc l st σ := by
  subst hp
  intro d hd E p la e s m args below meth c H locs ls hC hH hL
  have hm : (i, Value.int x) ∈ prs E.1 0 l := (prs_mem l 0).mpr ⟨i, .int x, by omega, hl, rfl⟩
  obtain ⟨kk, hkk⟩ := List.getElem?_of_mem hm
  exact lv_iinc hC.1 hC.2.1 h hL.has hkk hv hn rfl (fun ls' hl' => k d hd E p la e s m args below meth c H locs ls' hC hH (Lh_back1 rfl hk hl'))
theorem Vj_iadd {sh : Shp} {kd : Nat} {M : MI} {Post : Option Value → Mem → Prop} {pc q : Nat} {l : List (Option Value)} {st : List Value} {σ : Mem} {x y : Int32} (h : decode M.2.1 pc = .ok (.iadd, 1)) (hp : pc + 1 = q) (k : Vj sh kd M Post q l (.int (x + y) :: st) σ) : Vj sh kd M Post pc l (.int y :: .int x :: st) σ := by
  subst hp
  intro d hd E p la e s m args below meth c H locs ls hC hH hL
  exact lv_iadd hC.1 hC.2.1 h (k d hd E p la e s m args below meth c H locs ls hC hH hL)

theorem Vj_isub {sh : Shp} {kd : Nat} {M : MI} {Post : Option Value → Mem → Prop} {pc q : Nat} {l : List (Option Value)} {st : List Value} {σ : Mem} {x y : Int32} (h : decode M.2.1 pc = .ok (.isub, 1)) (hp : pc + 1 = q) (k : Vj sh kd M Post q l (.int (x - y) :: st) σ) : Vj sh kd M Post pc l (.int y :: .int x :: st) σ := by
  subst hp
  intro d hd E p la e s m args below meth c H locs ls hC hH hL
  exact lv_isub hC.1 hC.2.1 h (k d hd E p la e s m args below meth c H locs ls hC hH hL)

theorem Vj_imul {sh : Shp} {kd : Nat} {M : MI} {Post : Option Value → Mem → Prop} {pc q : Nat} {l : List (Option Value)} {st : List Value} {σ : Mem} {x y : Int32} (h : decode M.2.1 pc = .ok (.imul, 1)) (hp : pc + 1 = q) (k : Vj sh kd M Post q l (.int (x * y) :: st) σ) : Vj sh kd M Post pc l (.int y :: .int x :: st) σ := by
  subst hp
  intro d hd E p la e s m args below meth c H locs ls hC hH hL
  exact lv_imul hC.1 hC.2.1 h (k d hd E p la e s m args below meth c H locs ls hC hH hL)

theorem Vj_iand {sh : Shp} {kd : Nat} {M : MI} {Post : Option Value → Mem → Prop} {pc q : Nat} {l : List (Option Value)} {st : List Value} {σ : Mem} {x y : Int32} (h : decode M.2.1 pc = .ok (.iand, 1)) (hp : pc + 1 = q) (k : Vj sh kd M Post q l (.int (x &&& y) :: st) σ) : Vj sh kd M Post pc l (.int y :: .int x :: st) σ := by
  subst hp
  intro d hd E p la e s m args below meth c H locs ls hC hH hL
  exact lv_iand hC.1 hC.2.1 h (k d hd E p la e s m args below meth c H locs ls hC hH hL)

theorem Vj_ior {sh : Shp} {kd : Nat} {M : MI} {Post : Option Value → Mem → Prop} {pc q : Nat} {l : List (Option Value)} {st : List Value} {σ : Mem} {x y : Int32} (h : decode M.2.1 pc = .ok (.ior, 1)) (hp : pc + 1 = q) (k : Vj sh kd M Post q l (.int (x ||| y) :: st) σ) : Vj sh kd M Post pc l (.int y :: .int x :: st) σ := by
  subst hp
  intro d hd E p la e s m args below meth c H locs ls hC hH hL
  exact lv_ior hC.1 hC.2.1 h (k d hd E p la e s m args below meth c H locs ls hC hH hL)

theorem Vj_ixor {sh : Shp} {kd : Nat} {M : MI} {Post : Option Value → Mem → Prop} {pc q : Nat} {l : List (Option Value)} {st : List Value} {σ : Mem} {x y : Int32} (h : decode M.2.1 pc = .ok (.ixor, 1)) (hp : pc + 1 = q) (k : Vj sh kd M Post q l (.int (x ^^^ y) :: st) σ) : Vj sh kd M Post pc l (.int y :: .int x :: st) σ := by
  subst hp
  intro d hd E p la e s m args below meth c H locs ls hC hH hL
  exact lv_ixor hC.1 hC.2.1 h (k d hd E p la e s m args below meth c H locs ls hC hH hL)

theorem Vj_ladd {sh : Shp} {kd : Nat} {M : MI} {Post : Option Value → Mem → Prop} {pc q : Nat} {l : List (Option Value)} {st : List Value} {σ : Mem} {x y : Int64} (h : decode M.2.1 pc = .ok (.ladd, 1)) (hp : pc + 1 = q) (k : Vj sh kd M Post q l (.long (x + y) :: st) σ) : Vj sh kd M Post pc l (.long y :: .long x :: st) σ := by
  subst hp
  intro d hd E p la e s m args below meth c H locs ls hC hH hL
  exact lv_ladd hC.1 hC.2.1 h (k d hd E p la e s m args below meth c H locs ls hC hH hL)

theorem Vj_lmul {sh : Shp} {kd : Nat} {M : MI} {Post : Option Value → Mem → Prop} {pc q : Nat} {l : List (Option Value)} {st : List Value} {σ : Mem} {x y : Int64} (h : decode M.2.1 pc = .ok (.lmul, 1)) (hp : pc + 1 = q) (k : Vj sh kd M Post q l (.long (x * y) :: st) σ) : Vj sh kd M Post pc l (.long y :: .long x :: st) σ := by
  subst hp
  intro d hd E p la e s m args below meth c H locs ls hC hH hL
  exact lv_lmul hC.1 hC.2.1 h (k d hd E p la e s m args below meth c H locs ls hC hH hL)

theorem Vj_land {sh : Shp} {kd : Nat} {M : MI} {Post : Option Value → Mem → Prop} {pc q : Nat} {l : List (Option Value)} {st : List Value} {σ : Mem} {x y : Int64} (h : decode M.2.1 pc = .ok (.land, 1)) (hp : pc + 1 = q) (k : Vj sh kd M Post q l (.long (x &&& y) :: st) σ) : Vj sh kd M Post pc l (.long y :: .long x :: st) σ := by
  subst hp
  intro d hd E p la e s m args below meth c H locs ls hC hH hL
  exact lv_land hC.1 hC.2.1 h (k d hd E p la e s m args below meth c H locs ls hC hH hL)

theorem Vj_lor {sh : Shp} {kd : Nat} {M : MI} {Post : Option Value → Mem → Prop} {pc q : Nat} {l : List (Option Value)} {st : List Value} {σ : Mem} {x y : Int64} (h : decode M.2.1 pc = .ok (.lor, 1)) (hp : pc + 1 = q) (k : Vj sh kd M Post q l (.long (x ||| y) :: st) σ) : Vj sh kd M Post pc l (.long y :: .long x :: st) σ := by
  subst hp
  intro d hd E p la e s m args below meth c H locs ls hC hH hL
  exact lv_lor hC.1 hC.2.1 h (k d hd E p la e s m args below meth c H locs ls hC hH hL)

theorem Vj_ineg {sh : Shp} {kd : Nat} {M : MI} {Post : Option Value → Mem → Prop} {pc q : Nat} {l : List (Option Value)} {st : List Value} {σ : Mem} {x : Int32} (h : decode M.2.1 pc = .ok (.ineg, 1)) (hp : pc + 1 = q) (k : Vj sh kd M Post q l (.int (-x) :: st) σ) : Vj sh kd M Post pc l (.int x :: st) σ := by
  subst hp
  intro d hd E p la e s m args below meth c H locs ls hC hH hL
  exact lv_ineg hC.1 hC.2.1 h (k d hd E p la e s m args below meth c H locs ls hC hH hL)

theorem Vj_ishl {sh : Shp} {kd : Nat} {M : MI} {Post : Option Value → Mem → Prop} {pc q : Nat} {l : List (Option Value)} {st : List Value} {σ : Mem} {x y : Int32} (h : decode M.2.1 pc = .ok (.ishl, 1)) (hp : pc + 1 = q) (k : Vj sh kd M Post q l (.int (x <<< (y &&& 31)) :: st) σ) : Vj sh kd M Post pc l (.int y :: .int x :: st) σ := by
  subst hp
  intro d hd E p la e s m args below meth c H locs ls hC hH hL
  exact lv_ishl hC.1 hC.2.1 h (k d hd E p la e s m args below meth c H locs ls hC hH hL)

theorem Vj_ishr {sh : Shp} {kd : Nat} {M : MI} {Post : Option Value → Mem → Prop} {pc q : Nat} {l : List (Option Value)} {st : List Value} {σ : Mem} {x y : Int32} (h : decode M.2.1 pc = .ok (.ishr, 1)) (hp : pc + 1 = q) (k : Vj sh kd M Post q l (.int (x >>> (y &&& 31)) :: st) σ) : Vj sh kd M Post pc l (.int y :: .int x :: st) σ := by
  subst hp
  intro d hd E p la e s m args below meth c H locs ls hC hH hL
  exact lv_ishr hC.1 hC.2.1 h (k d hd E p la e s m args below meth c H locs ls hC hH hL)

theorem Vj_iushr {sh : Shp} {kd : Nat} {M : MI} {Post : Option Value → Mem → Prop} {pc q : Nat} {l : List (Option Value)} {st : List Value} {σ : Mem} {x y : Int32} (h : decode M.2.1 pc = .ok (.iushr, 1)) (hp : pc + 1 = q) (k : Vj sh kd M Post q l (.int ((x.toUInt32 >>> (y.toUInt32 &&& Int32.toUInt32 31)).toInt32) :: st) σ) : Vj sh kd M Post pc l (.int y :: .int x :: st) σ := by
  subst hp
  intro d hd E p la e s m args below meth c H locs ls hC hH hL
  exact lv_iushr hC.1 hC.2.1 h rfl (k d hd E p la e s m args below meth c H locs ls hC hH hL)

theorem Vj_i2l {sh : Shp} {kd : Nat} {M : MI} {Post : Option Value → Mem → Prop} {pc q : Nat} {l : List (Option Value)} {st : List Value} {σ : Mem} {x : Int32} (h : decode M.2.1 pc = .ok (.i2l, 1)) (hp : pc + 1 = q) (k : Vj sh kd M Post q l (.long x.toInt64 :: st) σ) : Vj sh kd M Post pc l (.int x :: st) σ := by
  subst hp
  intro d hd E p la e s m args below meth c H locs ls hC hH hL
  exact lv_i2l hC.1 hC.2.1 h rfl (k d hd E p la e s m args below meth c H locs ls hC hH hL)

theorem Vj_l2i {sh : Shp} {kd : Nat} {M : MI} {Post : Option Value → Mem → Prop} {pc q : Nat} {l : List (Option Value)} {st : List Value} {σ : Mem} {x : Int64} (h : decode M.2.1 pc = .ok (.l2i, 1)) (hp : pc + 1 = q) (k : Vj sh kd M Post q l (.int x.toInt32 :: st) σ) : Vj sh kd M Post pc l (.long x :: st) σ := by
  subst hp
  intro d hd E p la e s m args below meth c H locs ls hC hH hL
  exact lv_l2i hC.1 hC.2.1 h rfl (k d hd E p la e s m args below meth c H locs ls hC hH hL)

theorem Vj_lushr {sh : Shp} {kd : Nat} {M : MI} {Post : Option Value → Mem → Prop} {pc q : Nat} {l : List (Option Value)} {st : List Value} {σ : Mem} {x : Int64} {y : Int32} (h : decode M.2.1 pc = .ok (.lushr, 1)) (hp : pc + 1 = q) (k : Vj sh kd M Post q l (.long ((x.toUInt64 >>> (y.toInt64.toUInt64 &&& Int64.toUInt64 63)).toInt64) :: st) σ) : Vj sh kd M Post pc l (.int y :: .long x :: st) σ := by
  subst hp
  intro d hd E p la e s m args below meth c H locs ls hC hH hL
  exact lv_lushr hC.1 hC.2.1 h rfl (k d hd E p la e s m args below meth c H locs ls hC hH hL)

theorem Vj_lshl {sh : Shp} {kd : Nat} {M : MI} {Post : Option Value → Mem → Prop} {pc q : Nat} {l : List (Option Value)} {st : List Value} {σ : Mem} {x : Int64} {y : Int32} (h : decode M.2.1 pc = .ok (.lshl, 1)) (hp : pc + 1 = q) (k : Vj sh kd M Post q l (.long (x <<< (y.toInt64 &&& 63)) :: st) σ) : Vj sh kd M Post pc l (.int y :: .long x :: st) σ := by
  subst hp
  intro d hd E p la e s m args below meth c H locs ls hC hH hL
  exact lv_lshl hC.1 hC.2.1 h rfl (k d hd E p la e s m args below meth c H locs ls hC hH hL)

theorem Vj_lcmp {sh : Shp} {kd : Nat} {M : MI} {Post : Option Value → Mem → Prop} {pc q : Nat} {l : List (Option Value)} {st : List Value} {σ : Mem} {x y : Int64} (h : decode M.2.1 pc = .ok (.lcmp, 1)) (hp : pc + 1 = q) (k : Vj sh kd M Post q l (.int (lg_cmp x y) :: st) σ) : Vj sh kd M Post pc l (.long y :: .long x :: st) σ := by
  subst hp
  intro d hd E p la e s m args below meth c H locs ls hC hH hL
  exact W.lcmp hC.1 hC.2.1 h (k d hd E p la e s m args below meth c H locs ls hC hH hL)

theorem Vj_idiv {sh : Shp} {kd : Nat} {M : MI} {Post : Option Value → Mem → Prop} {pc q : Nat} {l : List (Option Value)} {st : List Value} {σ : Mem} {x y : Int32} (h : decode M.2.1 pc = .ok (.idiv, 1)) (hp : pc + 1 = q) (hne : ¬ y = 0) (k : Vj sh kd M Post q l (.int (x / y) :: st) σ) : Vj sh kd M Post pc l (.int y :: .int x :: st) σ := by
  subst hp
  intro d hd E p la e s m args below meth c H locs ls hC hH hL
  exact lv_idiv hC.1 hC.2.1 h hne (k d hd E p la e s m args below meth c H locs ls hC hH hL)

theorem Vj_irem {sh : Shp} {kd : Nat} {M : MI} {Post : Option Value → Mem → Prop} {pc q : Nat} {l : List (Option Value)} {st : List Value} {σ : Mem} {x y : Int32} (h : decode M.2.1 pc = .ok (.irem, 1)) (hp : pc + 1 = q) (hne : ¬ y = 0) (k : Vj sh kd M Post q l (.int (x % y) :: st) σ) : Vj sh kd M Post pc l (.int y :: .int x :: st) σ := by
  subst hp
  intro d hd E p la e s m args below meth c H locs ls hC hH hL
  have k1 := k d hd E p la e s m args below meth c H locs ls hC hH hL
  rw [show x % y = x - x / y * y from (irem_eq_mod x y).symm] at k1
  exact lv_irem hC.1 hC.2.1 h hne k1

theorem Vj_lrem {sh : Shp} {kd : Nat} {M : MI} {Post : Option Value → Mem → Prop} {pc q : Nat} {l : List (Option Value)} {st : List Value} {σ : Mem} {x y : Int64} (h : decode M.2.1 pc = .ok (.lrem, 1)) (hp : pc + 1 = q) (hne : ¬ y = 0) (k : Vj sh kd M Post q l (.long (x - x / y * y) :: st) σ) : Vj sh kd M Post pc l (.long y :: .long x :: st) σ := by
  subst hp
  intro d hd E p la e s m args below meth c H locs ls hC hH hL
  exact lv_lrem hC.1 hC.2.1 h hne (k d hd E p la e s m args below meth c H locs ls hC hH hL)

theorem Vj_dup {sh : Shp} {kd : Nat} {M : MI} {Post : Option Value → Mem → Prop} {pc q : Nat} {l : List (Option Value)} {st : List Value} {σ : Mem} {v : Value} (h : decode M.2.1 pc = .ok (.dup, 1)) (hp : pc + 1 = q) (hv : v.category = 1) (k : Vj sh kd M Post q l (v :: v :: st) σ) : Vj sh kd M Post pc l (v :: st) σ := by
  subst hp
  intro d hd E p la e s m args below meth c H locs ls hC hH hL
  exact lv_dup hC.1 hC.2.1 h ((cvv_cat _ v).trans hv) (k d hd E p la e s m args below meth c H locs ls hC hH hL)

theorem Vj_pop {sh : Shp} {kd : Nat} {M : MI} {Post : Option Value → Mem → Prop} {pc q : Nat} {l : List (Option Value)} {st : List Value} {σ : Mem} {v : Value} (h : decode M.2.1 pc = .ok (.pop, 1)) (hp : pc + 1 = q) (hv : v.category = 1) (k : Vj sh kd M Post q l (st) σ) : Vj sh kd M Post pc l (v :: st) σ := by
  subst hp
  intro d hd E p la e s m args below meth c H locs ls hC hH hL
  exact lv_pop hC.1 hC.2.1 h ((cvv_cat _ v).trans hv) (k d hd E p la e s m args below meth c H locs ls hC hH hL)

theorem Vj_dup2 {sh : Shp} {kd : Nat} {M : MI} {Post : Option Value → Mem → Prop} {pc q : Nat} {l : List (Option Value)} {st : List Value} {σ : Mem} {v u : Value} (h : decode M.2.1 pc = .ok (.dup2, 1)) (hp : pc + 1 = q) (hv : v.category = 1) (hu : u.category = 1) (k : Vj sh kd M Post q l (v :: u :: v :: u :: st) σ) : Vj sh kd M Post pc l (v :: u :: st) σ := by
  subst hp
  intro d hd E p la e s m args below meth c H locs ls hC hH hL
  exact lv_dup2_11 hC.1 hC.2.1 h ((cvv_cat _ v).trans hv) ((cvv_cat _ u).trans hu) (k d hd E p la e s m args below meth c H locs ls hC hH hL)

theorem Vj_goto {sh : Shp} {kd : Nat} {M : MI} {Post : Option Value → Mem → Prop} {pc q : Nat} {l : List (Option Value)} {st : List Value} {σ : Mem} {off : Int} (h : decode M.2.1 pc = .ok (.goto off, 3)) (ht : (pc : Int) + off = (q : Int)) (k : Vj sh kd M Post q l st σ) : Vj sh kd M Post pc l st σ := by
  intro d hd E p la e s m args below meth c H locs ls hC hH hL
  exact lv_goto hC.1 hC.2.1 h ht (k d hd E p la e s m args below meth c H locs ls hC hH hL)
theorem Vj_if_eq {sh : Shp} {kd : Nat} {M : MI} {Post : Option Value → Mem → Prop} {pc q : Nat} {l : List (Option Value)} {st : List Value} {σ : Mem} {x : Int32} {off : Int} {tgt : Nat} (h : decode M.2.1 pc = .ok (.ifCond .eq off, 3)) (ht : (pc : Int) + off = (tgt : Int)) (hp : pc + 3 = q) (kt : x = 0 → Vj sh kd M Post tgt l st σ) (kf : ¬ x = 0 → Vj sh kd M Post q l st σ) : Vj sh kd M Post pc l (.int x :: st) σ := by
  subst hp
  intro d hd E p la e s m args below meth c H locs ls hC hH hL
  exact lv_if_eq hC.1 hC.2.1 h ht (fun z => kt z d hd E p la e s m args below meth c H locs ls hC hH hL) (fun z => kf z d hd E p la e s m args below meth c H locs ls hC hH hL)
theorem Vj_if_ne {sh : Shp} {kd : Nat} {M : MI} {Post : Option Value → Mem → Prop} {pc q : Nat} {l : List (Option Value)} {st : List Value} {σ : Mem} {x : Int32} {off : Int} {tgt : Nat} (h : decode M.2.1 pc = .ok (.ifCond .ne off, 3)) (ht : (pc : Int) + off = (tgt : Int)) (hp : pc + 3 = q) (kt : ¬ x = 0 → Vj sh kd M Post tgt l st σ) (kf : x = 0 → Vj sh kd M Post q l st σ) : Vj sh kd M Post pc l (.int x :: st) σ := by
  subst hp
  intro d hd E p la e s m args below meth c H locs ls hC hH hL
  exact lv_if_ne hC.1 hC.2.1 h ht (fun z => kt z d hd E p la e s m args below meth c H locs ls hC hH hL) (fun z => kf z d hd E p la e s m args below meth c H locs ls hC hH hL)
theorem Vj_if_lt {sh : Shp} {kd : Nat} {M : MI} {Post : Option Value → Mem → Prop} {pc q : Nat} {l : List (Option Value)} {st : List Value} {σ : Mem} {x : Int32} {off : Int} {tgt : Nat} (h : decode M.2.1 pc = .ok (.ifCond .lt off, 3)) (ht : (pc : Int) + off = (tgt : Int)) (hp : pc + 3 = q) (kt : x < 0 → Vj sh kd M Post tgt l st σ) (kf : ¬ x < 0 → Vj sh kd M Post q l st σ) : Vj sh kd M Post pc l (.int x :: st) σ := by
  subst hp
  intro d hd E p la e s m args below meth c H locs ls hC hH hL
  exact lv_if_lt hC.1 hC.2.1 h ht (fun z => kt z d hd E p la e s m args below meth c H locs ls hC hH hL) (fun z => kf z d hd E p la e s m args below meth c H locs ls hC hH hL)
theorem Vj_if_ge {sh : Shp} {kd : Nat} {M : MI} {Post : Option Value → Mem → Prop} {pc q : Nat} {l : List (Option Value)} {st : List Value} {σ : Mem} {x : Int32} {off : Int} {tgt : Nat} (h : decode M.2.1 pc = .ok (.ifCond .ge off, 3)) (ht : (pc : Int) + off = (tgt : Int)) (hp : pc + 3 = q) (kt : 0 ≤ x → Vj sh kd M Post tgt l st σ) (kf : ¬ 0 ≤ x → Vj sh kd M Post q l st σ) : Vj sh kd M Post pc l (.int x :: st) σ := by
  subst hp
  intro d hd E p la e s m args below meth c H locs ls hC hH hL
  exact lv_if_ge hC.1 hC.2.1 h ht (fun z => kt z d hd E p la e s m args below meth c H locs ls hC hH hL) (fun z => kf z d hd E p la e s m args below meth c H locs ls hC hH hL)
theorem Vj_if_gt {sh : Shp} {kd : Nat} {M : MI} {Post : Option Value → Mem → Prop} {pc q : Nat} {l : List (Option Value)} {st : List Value} {σ : Mem} {x : Int32} {off : Int} {tgt : Nat} (h : decode M.2.1 pc = .ok (.ifCond .gt off, 3)) (ht : (pc : Int) + off = (tgt : Int)) (hp : pc + 3 = q) (kt : 0 < x → Vj sh kd M Post tgt l st σ) (kf : ¬ 0 < x → Vj sh kd M Post q l st σ) : Vj sh kd M Post pc l (.int x :: st) σ := by
  subst hp
  intro d hd E p la e s m args below meth c H locs ls hC hH hL
  exact lv_if_gt hC.1 hC.2.1 h ht (fun z => kt z d hd E p la e s m args below meth c H locs ls hC hH hL) (fun z => kf z d hd E p la e s m args below meth c H locs ls hC hH hL)
theorem Vj_if_le {sh : Shp} {kd : Nat} {M : MI} {Post : Option Value → Mem → Prop} {pc q : Nat} {l : List (Option Value)} {st : List Value} {σ : Mem} {x : Int32} {off : Int} {tgt : Nat} (h : decode M.2.1 pc = .ok (.ifCond .le off, 3)) (ht : (pc : Int) + off = (tgt : Int)) (hp : pc + 3 = q) (kt : x ≤ 0 → Vj sh kd M Post tgt l st σ) (kf : ¬ x ≤ 0 → Vj sh kd M Post q l st σ) : Vj sh kd M Post pc l (.int x :: st) σ := by
  subst hp
  intro d hd E p la e s m args below meth c H locs ls hC hH hL
  exact lv_if_le hC.1 hC.2.1 h ht (fun z => kt z d hd E p la e s m args below meth c H locs ls hC hH hL) (fun z => kf z d hd E p la e s m args below meth c H locs ls hC hH hL)
theorem Vj_icmp_eq {sh : Shp} {kd : Nat} {M : MI} {Post : Option Value → Mem → Prop} {pc q : Nat} {l : List (Option Value)} {st : List Value} {σ : Mem} {x y : Int32} {off : Int} {tgt : Nat} (h : decode M.2.1 pc = .ok (.if_icmp .eq off, 3)) (ht : (pc : Int) + off = (tgt : Int)) (hp : pc + 3 = q) (kt : x = y → Vj sh kd M Post tgt l st σ) (kf : ¬ x = y → Vj sh kd M Post q l st σ) : Vj sh kd M Post pc l (.int y :: .int x :: st) σ := by
  subst hp
  intro d hd E p la e s m args below meth c H locs ls hC hH hL
  exact lv_icmp_eq hC.1 hC.2.1 h ht (fun z => kt z d hd E p la e s m args below meth c H locs ls hC hH hL) (fun z => kf z d hd E p la e s m args below meth c H locs ls hC hH hL)
theorem Vj_icmp_ne {sh : Shp} {kd : Nat} {M : MI} {Post : Option Value → Mem → Prop} {pc q : Nat} {l : List (Option Value)} {st : List Value} {σ : Mem} {x y : Int32} {off : Int} {tgt : Nat} (h : decode M.2.1 pc = .ok (.if_icmp .ne off, 3)) (ht : (pc : Int) + off = (tgt : Int)) (hp : pc + 3 = q) (kt : ¬ x = y → Vj sh kd M Post tgt l st σ) (kf : x = y → Vj sh kd M Post q l st σ) : Vj sh kd M Post pc l (.int y :: .int x :: st) σ := by
  subst hp
  intro d hd E p la e s m args below meth c H locs ls hC hH hL
  exact lv_icmp_ne hC.1 hC.2.1 h ht (fun z => kt z d hd E p la e s m args below meth c H locs ls hC hH hL) (fun z => kf z d hd E p la e s m args below meth c H locs ls hC hH hL)
theorem Vj_icmp_lt {sh : Shp} {kd : Nat} {M : MI} {Post : Option Value → Mem → Prop} {pc q : Nat} {l : List (Option Value)} {st : List Value} {σ : Mem} {x y : Int32} {off : Int} {tgt : Nat} (h : decode M.2.1 pc = .ok (.if_icmp .lt off, 3)) (ht : (pc : Int) + off = (tgt : Int)) (hp : pc + 3 = q) (kt : x < y → Vj sh kd M Post tgt l st σ) (kf : ¬ x < y → Vj sh kd M Post q l st σ) : Vj sh kd M Post pc l (.int y :: .int x :: st) σ := by
  subst hp
  intro d hd E p la e s m args below meth c H locs ls hC hH hL
  exact lv_icmp_lt hC.1 hC.2.1 h ht (fun z => kt z d hd E p la e s m args below meth c H locs ls hC hH hL) (fun z => kf z d hd E p la e s m args below meth c H locs ls hC hH hL)
theorem Vj_icmp_ge {sh : Shp} {kd : Nat} {M : MI} {Post : Option Value → Mem → Prop} {pc q : Nat} {l : List (Option Value)} {st : List Value} {σ : Mem} {x y : Int32} {off : Int} {tgt : Nat} (h : decode M.2.1 pc = .ok (.if_icmp .ge off, 3)) (ht : (pc : Int) + off = (tgt : Int)) (hp : pc + 3 = q) (kt : y ≤ x → Vj sh kd M Post tgt l st σ) (kf : ¬ y ≤ x → Vj sh kd M Post q l st σ) : Vj sh kd M Post pc l (.int y :: .int x :: st) σ := by
  subst hp
  intro d hd E p la e s m args below meth c H locs ls hC hH hL
  exact lv_icmp_ge hC.1 hC.2.1 h ht (fun z => kt z d hd E p la e s m args below meth c H locs ls hC hH hL) (fun z => kf z d hd E p la e s m args below meth c H locs ls hC hH hL)
theorem Vj_icmp_gt {sh : Shp} {kd : Nat} {M : MI} {Post : Option Value → Mem → Prop} {pc q : Nat} {l : List (Option Value)} {st : List Value} {σ : Mem} {x y : Int32} {off : Int} {tgt : Nat} (h : decode M.2.1 pc = .ok (.if_icmp .gt off, 3)) (ht : (pc : Int) + off = (tgt : Int)) (hp : pc + 3 = q) (kt : y < x → Vj sh kd M Post tgt l st σ) (kf : ¬ y < x → Vj sh kd M Post q l st σ) : Vj sh kd M Post pc l (.int y :: .int x :: st) σ := by
  subst hp
  intro d hd E p la e s m args below meth c H locs ls hC hH hL
  exact lv_icmp_gt hC.1 hC.2.1 h ht (fun z => kt z d hd E p la e s m args below meth c H locs ls hC hH hL) (fun z => kf z d hd E p la e s m args below meth c H locs ls hC hH hL)
theorem Vj_icmp_le {sh : Shp} {kd : Nat} {M : MI} {Post : Option Value → Mem → Prop} {pc q : Nat} {l : List (Option Value)} {st : List Value} {σ : Mem} {x y : Int32} {off : Int} {tgt : Nat} (h : decode M.2.1 pc = .ok (.if_icmp .le off, 3)) (ht : (pc : Int) + off = (tgt : Int)) (hp : pc + 3 = q) (kt : x ≤ y → Vj sh kd M Post tgt l st σ) (kf : ¬ x ≤ y → Vj sh kd M Post q l st σ) : Vj sh kd M Post pc l (.int y :: .int x :: st) σ := by
  subst hp
  intro d hd E p la e s m args below meth c H locs ls hC hH hL
  exact lv_icmp_le hC.1 hC.2.1 h ht (fun z => kt z d hd E p la e s m args below meth c H locs ls hC hH hL) (fun z => kf z d hd E p la e s m args below meth c H locs ls hC hH hL)
theorem Vj_ifnull {sh : Shp} {kd : Nat} {M : MI} {Post : Option Value → Mem → Prop} {pc q : Nat} {l : List (Option Value)} {st : List Value} {σ : Mem} {x : Nat} {off : Int} (h : decode M.2.1 pc = .ok (.ifnull off, 3)) (hp : pc + 3 = q) (k : Vj sh kd M Post q l st σ) : Vj sh kd M Post pc l (.ref x :: st) σ := by
  subst hp
  intro d hd E p la e s m args below meth c H locs ls hC hH hL
  exact lv_ifnull hC.1 hC.2.1 h (k d hd E p la e s m args below meth c H locs ls hC hH hL)
theorem Vj_lookup {sh : Shp} {kd : Nat} {M : MI} {Post : Option Value → Mem → Prop} {pc q : Nat} {l : List (Option Value)} {st : List Value} {σ : Mem} {dflt : Int} {ps : Array (Int × Int)} {len : Nat} {x : Int32} {off : Int} (h : decode M.2.1 pc = .ok (.lookupswitch dflt ps, len)) (hs : (ps.toList.zip (ps.toList.drop 1)).all (fun (a, next) => a.1 < next.1) = true) (ho : Op.lookupswitch.offset ps.toList dflt x.toInt = off) (ht : (pc : Int) + off = (q : Int)) (k : Vj sh kd M Post q l st σ) : Vj sh kd M Post pc l (.int x :: st) σ := by
  intro d hd E p la e s m args below meth c H locs ls hC hH hL
  exact lv_lookup hC.1 hC.2.1 h hs ho ht (k d hd E p la e s m args below meth c H locs ls hC hH hL)
theorem Vj_tableOut {sh : Shp} {kd : Nat} {M : MI} {Post : Option Value → Mem → Prop} {pc q : Nat} {l : List (Option Value)} {st : List Value} {σ : Mem} {dflt lo hi : Int} {offs : Array Int} {len : Nat} {x : Int32} (h : decode M.2.1 pc = .ok (.tableswitch dflt lo hi offs, len)) (hx : x.toInt < lo ∨ hi < x.toInt) (ht : (pc : Int) + dflt = (q : Int)) (k : Vj sh kd M Post q l st σ) : Vj sh kd M Post pc l (.int x :: st) σ := by
  intro d hd E p la e s m args below meth c H locs ls hC hH hL
  exact lv_tableOut hC.1 hC.2.1 h hx ht (k d hd E p la e s m args below meth c H locs ls hC hH hL)
theorem Vj_tableIn {sh : Shp} {kd : Nat} {M : MI} {Post : Option Value → Mem → Prop} {pc q : Nat} {l : List (Option Value)} {st : List Value} {σ : Mem} {dflt lo hi : Int} {offs : Array Int} {len : Nat} {x : Int32} {off : Int} (h : decode M.2.1 pc = .ok (.tableswitch dflt lo hi offs, len)) (h1 : ¬ x.toInt < lo) (h2 : ¬ hi < x.toInt) (ho : offs[(x.toInt - lo).toNat]? = some off) (ht : (pc : Int) + off = (q : Int)) (k : Vj sh kd M Post q l st σ) : Vj sh kd M Post pc l (.int x :: st) σ := by
  intro d hd E p la e s m args below meth c H locs ls hC hH hL
  exact lv_tableIn hC.1 hC.2.1 h h1 h2 ho ht (k d hd E p la e s m args below meth c H locs ls hC hH hL)
/-! arrays -/
theorem Hx.setI {sh : Shp} {E : Qe} {σ : Mem} {s : State} {H1 : Heap} {locs1 : List Loc} {q n : Nat} {kd : Nat} {j : Nat} {x : Int32} (hq : sh[q]? = some (.inl (kd, n)))
    (hP : va_P (E.2.2.1, E.2.2.2.1) vwCl ((wd sh E σ).set q (E.1 q, .inl (if kd = 0 then E.2.2.2.2.1 else E.2.2.2.2.2, n, .inl (upd (σ.1 q) j x)))) H1) (hD : va_D E.2.1 (wd sh E σ)) (hS : va_S E.2.1 s.heap H1 locs1) : Hx sh E (uI σ q j x) s H1 locs1 := by
  rw [wd_setA hq] at hP
  exact ⟨hP, wd_D hD, hS⟩
theorem Vj_iald {sh : Shp} {kd : Nat} {M : MI} {Post : Option Value → Mem → Prop} {pc q : Nat} {l : List (Option Value)} {st : List Value} {σ : Mem} {a n : Nat} {i : Int32} (hq : sh[a]? = some (.inl (0, n))) (hin : vp_in i n) (h : decode M.2.1 pc = .ok (.iaload, 1)) (hp : pc + 1 = q) (k : Vj sh kd M Post q l (.int (σ.1 a i.toNatClampNeg) :: st) σ) : Vj sh kd M Post pc l (.int i :: .ref a :: st) σ := by
  subst hp
  intro d hd E p la e s m args below meth c H locs ls hC hH hL
  exact va_iald hC.1 hC.2.1 hC.2.2.2.2.2.2.2.1 hH.1 a 0 (wd_get hq) rfl hin h (k d hd E p la e s m args below meth c H locs ls hC hH hL)
theorem Vj_zald {sh : Shp} {kd : Nat} {M : MI} {Post : Option Value → Mem → Prop} {pc q : Nat} {l : List (Option Value)} {st : List Value} {σ : Mem} {a n : Nat} {i : Int32} (hq : sh[a]? = some (.inl (1, n))) (hin : vp_in i n) (h : decode M.2.1 pc = .ok (.baload, 1)) (hp : pc + 1 = q) (k : Vj sh kd M Post q l (.int (σ.1 a i.toNatClampNeg) :: st) σ) : Vj sh kd M Post pc l (.int i :: .ref a :: st) σ := by
  subst hp
  intro d hd E p la e s m args below meth c H locs ls hC hH hL
  exact va_zald hC.1 hC.2.1 hC.2.2.2.2.2.2.2.1 hH.1 a 1 (wd_get hq) rfl hin h (k d hd E p la e s m args below meth c H locs ls hC hH hL)
theorem Vj_iast {sh : Shp} {kd : Nat} {M : MI} {Post : Option Value → Mem → Prop} {pc q : Nat} {l : List (Option Value)} {st : List Value} {σ : Mem} {a n : Nat} {i x : Int32} (hq : sh[a]? = some (.inl (0, n))) (hin : vp_in i n) (h : decode M.2.1 pc = .ok (.iastore, 1)) (hp : pc + 1 = q) (k : Vj sh kd M Post q l st (uI σ a i.toNatClampNeg x)) : Vj sh kd M Post pc l (.int x :: .int i :: .ref a :: st) σ := by
  subst hp
  intro d hd E p la e s m args below meth c H locs ls hC hH hL
  exact va_iast hC.1 hC.2.1 hC.2.2.2.2.2.2.2.1 hH.1 hH.2.1 hH.2.2 a 0 (wd_get hq) rfl hin h (fun H1 locs1 hP1 hD1 hS1 => k d hd E p la e s m args below meth c H1 locs1 ls hC (Hx.setI hq hP1 hH.2.1 hS1) hL)
theorem Vj_zast {sh : Shp} {kd : Nat} {M : MI} {Post : Option Value → Mem → Prop} {pc q : Nat} {l : List (Option Value)} {st : List Value} {σ : Mem} {a n : Nat} {i x : Int32} (hq : sh[a]? = some (.inl (1, n))) (hin : vp_in i n) (h : decode M.2.1 pc = .ok (.bastore, 1)) (hp : pc + 1 = q) (k : Vj sh kd M Post q l st (uI σ a i.toNatClampNeg (vp_nar .boolean x))) : Vj sh kd M Post pc l (.int x :: .int i :: .ref a :: st) σ := by
  subst hp
  intro d hd E p la e s m args below meth c H locs ls hC hH hL
  exact va_zast hC.1 hC.2.1 hC.2.2.2.2.2.2.2.1 hH.1 hH.2.1 hH.2.2 a 1 (wd_get hq) rfl hin h (fun H1 locs1 hP1 hD1 hS1 => k d hd E p la e s m args below meth c H1 locs1 ls hC (Hx.setI hq hP1 hH.2.1 hS1) hL)
theorem Vj_alen {sh : Shp} {kd : Nat} {M : MI} {Post : Option Value → Mem → Prop} {pc q : Nat} {l : List (Option Value)} {st : List Value} {σ : Mem} {a n : Nat} {v : Int32} (hq : sh[a]? = some (.inl (0, n))) (hv : Int32.ofNat n = v) (h : decode M.2.1 pc = .ok (.arraylength, 1)) (hp : pc + 1 = q) (k : Vj sh kd M Post q l (.int v :: st) σ) : Vj sh kd M Post pc l (.ref a :: st) σ := by
  subst hp
  intro d hd E p la e s m args below meth c H locs ls hC hH hL
  exact va_alen hC.1 hC.2.1 hC.2.2.2.2.2.2.2.1 hH.1 a 0 (wd_get hq) rfl hv h (k d hd E p la e s m args below meth c H locs ls hC hH hL)
theorem Vj_aldTENS {sh : Shp} {kd : Nat} {M : MI} {Post : Option Value → Mem → Prop} {pc q : Nat} {l : List (Option Value)} {st : List Value} {σ : Mem} {i : Int32} (hin : vp_in i 7) (h : decode M.2.1 pc = .ok (.iaload, 1)) (hp : pc + 1 = q) (k : Vj sh kd M Post q l (.int (tTENS i.toNatClampNeg) :: st) σ) : Vj sh kd M Post pc l (.int i :: .ref 1000 :: st) σ := by
  subst hp
  intro d hd E p la e s m args below meth c H locs ls hC hH hL
  exact va_ti hC.1 hC.2.1 hC.2.2.2.2.2.2.2.2.2.1.2 hH.2.2 hin rfl h (k d hd E p la e s m args below meth c H locs ls hC hH hL)
theorem Vj_alenTENS {sh : Shp} {kd : Nat} {M : MI} {Post : Option Value → Mem → Prop} {pc q : Nat} {l : List (Option Value)} {st : List Value} {σ : Mem} (h : decode M.2.1 pc = .ok (.arraylength, 1)) (hp : pc + 1 = q) (k : Vj sh kd M Post q l (.int 7 :: st) σ) : Vj sh kd M Post pc l (.ref 1000 :: st) σ := by
  subst hp
  intro d hd E p la e s m args below meth c H locs ls hC hH hL
  exact va_tlen hC.1 hC.2.1 hC.2.2.2.2.2.2.2.2.2.1.2 hH.2.2 (by decide) h (k d hd E p la e s m args below meth c H locs ls hC hH hL)
theorem Vj_getsTENS {sh : Shp} {kd : Nat} {M : MI} {Post : Option Value → Mem → Prop} {pc q : Nat} {l : List (Option Value)} {st : List Value} {σ : Mem} {ix : Nat} (hw : Cond.fieldLink M.1.cls ix "FiveRemotes" "TENS" "[I" ∈ lw_big) (h : decode M.2.1 pc = .ok (.getstatic ix, 3)) (hp : pc + 3 = q) (k : Vj sh kd M Post q l (.ref 1000 :: st) σ) : Vj sh kd M Post pc l st σ := by
  subst hp
  intro d hd E p la e s m args below meth c H locs ls hC hH hL
  exact va_gets hC.1 hC.2.1 hC.2.2.2.2.2.2.2.2.2.1.1 hH.2.2 hC.2.2.2.2.2.1 (hC.2.2.2.2.2.2.1 _ (List.mem_cons_of_mem _ hw)) (fun _ h => h) h (k d hd E p la e s m args below meth c H locs ls hC hH hL)
theorem Vj_aldORDERS {sh : Shp} {kd : Nat} {M : MI} {Post : Option Value → Mem → Prop} {pc q : Nat} {l : List (Option Value)} {st : List Value} {σ : Mem} {i : Int32} (hin : vp_in i 7) (h : decode M.2.1 pc = .ok (.iaload, 1)) (hp : pc + 1 = q) (k : Vj sh kd M Post q l (.int (tORD i.toNatClampNeg) :: st) σ) : Vj sh kd M Post pc l (.int i :: .ref 1001 :: st) σ := by
  subst hp
  intro d hd E p la e s m args below meth c H locs ls hC hH hL
  exact va_ti hC.1 hC.2.1 hC.2.2.2.2.2.2.2.2.2.2.2 hH.2.2 hin rfl h (k d hd E p la e s m args below meth c H locs ls hC hH hL)
theorem Vj_alenORDERS {sh : Shp} {kd : Nat} {M : MI} {Post : Option Value → Mem → Prop} {pc q : Nat} {l : List (Option Value)} {st : List Value} {σ : Mem} (h : decode M.2.1 pc = .ok (.arraylength, 1)) (hp : pc + 1 = q) (k : Vj sh kd M Post q l (.int 7 :: st) σ) : Vj sh kd M Post pc l (.ref 1001 :: st) σ := by
  subst hp
  intro d hd E p la e s m args below meth c H locs ls hC hH hL
  exact va_tlen hC.1 hC.2.1 hC.2.2.2.2.2.2.2.2.2.2.2 hH.2.2 (by decide) h (k d hd E p la e s m args below meth c H locs ls hC hH hL)
theorem Vj_getsORDERS {sh : Shp} {kd : Nat} {M : MI} {Post : Option Value → Mem → Prop} {pc q : Nat} {l : List (Option Value)} {st : List Value} {σ : Mem} {ix : Nat} (hw : Cond.fieldLink M.1.cls ix "FiveRemotes" "ORDERS" "[I" ∈ lw_big) (h : decode M.2.1 pc = .ok (.getstatic ix, 3)) (hp : pc + 3 = q) (k : Vj sh kd M Post q l (.ref 1001 :: st) σ) : Vj sh kd M Post pc l st σ := by
  subst hp
  intro d hd E p la e s m args below meth c H locs ls hC hH hL
  exact va_gets hC.1 hC.2.1 hC.2.2.2.2.2.2.2.2.2.2.1 hH.2.2 hC.2.2.2.2.2.1 (hC.2.2.2.2.2.2.1 _ (List.mem_cons_of_mem _ hw)) (fun _ h => h) h (k d hd E p la e s m args below meth c H locs ls hC hH hL)
/-! fields -/
def FLk (own : String) (ix ci k : Nat) (fin : Bool) (ty : FieldType) : Prop := ∃ (C : String) (T : u_T) (N : Nat) (ty0 : Nat → FieldType), vwCl[ci]? = some (C, T, N) ∧ k < N ∧ (∀ w ∈ u_ws C T N, w ∈ lw_big) ∧ (∀ k, k < N → parseFieldDescriptor (T k).2.2.1 = some (ty0 k)) ∧ (∀ a, a < N → ∀ b, b < N → a ≠ b → (T a).2.1 ≠ (T b).2.1) ∧ (T k).2.2.2 = fin ∧ parseFieldDescriptor (T k).2.2.1 = some ty ∧
  (Cond.fieldLink own ix (T k).1 (T k).2.1 (T k).2.2.1 ∈ lw_big ∨ ∃ host : String, Cond.fieldLinkNest own ix (T k).1 (T k).2.1 (T k).2.2.1 host ∈ lw_nest)
theorem ts_u {E : Qe} {M : MI} {p : Program} {s : State} {m : MethodId} {args : Array Value} {meth : Method} {c : Code} (hC : Cx E M p s m args meth c) {w : Cond} (hw : w ∈ lw_big) : w.before args s = true := hC.2.2.2.2.2.2.1 _ (List.mem_cons_of_mem _ hw)
theorem ts_n {E : Qe} {M : MI} {p : Program} {s : State} {m : MethodId} {args : Array Value} {meth : Method} {c : Code} (hC : Cx E M p s m args meth c) {w : Cond} (ho : w.onTables = true) (hw : w ∈ lw_nest) : w.before args s = true := va_Nw.use ho (hC.2.2.2.2.2.2.2.2.1 _ hw)
theorem Vj_getI {sh : Shp} {kd : Nat} {M : MI} {Post : Option Value → Mem → Prop} {pc q : Nat} {l : List (Option Value)} {st : List Value} {σ : Mem} {a ix ci j z : Nat} {fs : List (Nat × Nat)} {fin : Bool} {ty : FieldType} (hf : FLk M.1.cls ix ci j fin ty) (hq : sh[a]? = some (.inr (ci, fs))) (hj : fs[j]? = some (0, z)) (h : decode M.2.1 pc = .ok (.getfield ix, 3)) (hp : pc + 3 = q) (k : Vj sh kd M Post q l (.int (σ.1 a j) :: st) σ) : Vj sh kd M Post pc l (.ref a :: st) σ := by
  subst hp
  intro d hd E p la e s m args below meth c H locs ls hC hH hL
  obtain ⟨C, T, N, ty0, h1, h2, h3, h4, h5, h6, h7, h8⟩ := hf
  have hv : (fs.mapIdx (fun k f => cvF E.1 σ a k f))[j]? = some (cvv E.1 (.int (σ.1 a j))) := by rw [List.getElem?_mapIdx, hj]; rfl
  rcases h8 with h8 | ⟨host, h8⟩
  · exact va_get hC.1 hC.2.1 (Ts := lw_big) (fun w hw => ts_u hC hw) h3 hC.2.2.2.2.2.1 hC.2.2.2.2.2.2.2.1 hH.1 a (wd_get hq) h1 j h2 (ts_u hC h8) (fun _ h => h) hv h (k d hd E p la e s m args below meth c H locs ls hC hH hL)
  · exact va_getN hC.1 hC.2.1 (Ts := lw_big) (fun w hw => ts_u hC hw) h3 hC.2.2.2.2.2.1 hC.2.2.2.2.2.2.2.1 hH.1 a (wd_get hq) h1 j h2 (ts_n hC rfl h8) (fun _ h => h) hv h (k d hd E p la e s m args below meth c H locs ls hC hH hL)
theorem Vj_getL {sh : Shp} {kd : Nat} {M : MI} {Post : Option Value → Mem → Prop} {pc q : Nat} {l : List (Option Value)} {st : List Value} {σ : Mem} {a ix ci j z : Nat} {fs : List (Nat × Nat)} {fin : Bool} {ty : FieldType} (hf : FLk M.1.cls ix ci j fin ty) (hq : sh[a]? = some (.inr (ci, fs))) (hj : fs[j]? = some (1, z)) (h : decode M.2.1 pc = .ok (.getfield ix, 3)) (hp : pc + 3 = q) (k : Vj sh kd M Post q l (.long (σ.2 a j) :: st) σ) : Vj sh kd M Post pc l (.ref a :: st) σ := by
  subst hp
  intro d hd E p la e s m args below meth c H locs ls hC hH hL
  obtain ⟨C, T, N, ty0, h1, h2, h3, h4, h5, h6, h7, h8⟩ := hf
  have hv : (fs.mapIdx (fun k f => cvF E.1 σ a k f))[j]? = some (cvv E.1 (.long (σ.2 a j))) := by rw [List.getElem?_mapIdx, hj]; rfl
  rcases h8 with h8 | ⟨host, h8⟩
  · exact va_get hC.1 hC.2.1 (Ts := lw_big) (fun w hw => ts_u hC hw) h3 hC.2.2.2.2.2.1 hC.2.2.2.2.2.2.2.1 hH.1 a (wd_get hq) h1 j h2 (ts_u hC h8) (fun _ h => h) hv h (k d hd E p la e s m args below meth c H locs ls hC hH hL)
  · exact va_getN hC.1 hC.2.1 (Ts := lw_big) (fun w hw => ts_u hC hw) h3 hC.2.2.2.2.2.1 hC.2.2.2.2.2.2.2.1 hH.1 a (wd_get hq) h1 j h2 (ts_n hC rfl h8) (fun _ h => h) hv h (k d hd E p la e s m args below meth c H locs ls hC hH hL)
theorem Vj_getR {sh : Shp} {kd : Nat} {M : MI} {Post : Option Value → Mem → Prop} {pc q : Nat} {l : List (Option Value)} {st : List Value} {σ : Mem} {a ix ci j z : Nat} {fs : List (Nat × Nat)} {fin : Bool} {ty : FieldType} (hf : FLk M.1.cls ix ci j fin ty) (hq : sh[a]? = some (.inr (ci, fs))) (hj : fs[j]? = some (2, z)) (h : decode M.2.1 pc = .ok (.getfield ix, 3)) (hp : pc + 3 = q) (k : Vj sh kd M Post q l (.ref (z) :: st) σ) : Vj sh kd M Post pc l (.ref a :: st) σ := by
  subst hp
  intro d hd E p la e s m args below meth c H locs ls hC hH hL
  obtain ⟨C, T, N, ty0, h1, h2, h3, h4, h5, h6, h7, h8⟩ := hf
  have hv : (fs.mapIdx (fun k f => cvF E.1 σ a k f))[j]? = some (cvv E.1 (.ref (z))) := by rw [List.getElem?_mapIdx, hj]; rfl
  rcases h8 with h8 | ⟨host, h8⟩
  · exact va_get hC.1 hC.2.1 (Ts := lw_big) (fun w hw => ts_u hC hw) h3 hC.2.2.2.2.2.1 hC.2.2.2.2.2.2.2.1 hH.1 a (wd_get hq) h1 j h2 (ts_u hC h8) (fun _ h => h) hv h (k d hd E p la e s m args below meth c H locs ls hC hH hL)
  · exact va_getN hC.1 hC.2.1 (Ts := lw_big) (fun w hw => ts_u hC hw) h3 hC.2.2.2.2.2.1 hC.2.2.2.2.2.2.2.1 hH.1 a (wd_get hq) h1 j h2 (ts_n hC rfl h8) (fun _ h => h) hv h (k d hd E p la e s m args below meth c H locs ls hC hH hL)
theorem Vj_putI {sh : Shp} {kd : Nat} {M : MI} {Post : Option Value → Mem → Prop} {pc q : Nat} {l : List (Option Value)} {st : List Value} {σ : Mem} {a ix ci j z : Nat} {x : Int32} {fs : List (Nat × Nat)} (hf : FLk M.1.cls ix ci j false .int) (hq : sh[a]? = some (.inr (ci, fs))) (hj : fs[j]? = some (0, z)) (h : decode M.2.1 pc = .ok (.putfield ix, 3)) (hp : pc + 3 = q) (k : Vj sh kd M Post q l st (uI σ a j x)) : Vj sh kd M Post pc l (.int x :: .ref a :: st) σ := by
  subst hp
  intro d hd E p la e s m args below meth c H locs ls hC hH hL
  obtain ⟨C, T, N, ty0, h1, h2, h3, h4, h5, h6, h7, h8⟩ := hf
  have hl : j < (fs.mapIdx (fun k f => cvF E.1 σ a k f)).length := by rw [List.length_mapIdx]; exact (List.getElem?_eq_some_iff.mp hj).1
  rcases h8 with h8 | ⟨host, h8⟩
  · exact va_put hC.1 hC.2.1 (Ts := lw_big) (fun w hw => ts_u hC hw) h3 ty0 h4 h5 hC.2.2.2.2.2.1 hC.2.2.2.2.2.2.2.1 hH.1 hH.2.1 hH.2.2 a (wd_get hq) h1 j h2 (ts_u hC h8) (fun _ h => h) h6 h7 rfl rfl hl h (fun H1 locs1 hP1 hD1 hS1 => k d hd E p la e s m args below meth c H1 locs1 ls hC ⟨by rw [← wd_setF hq hj]; exact hP1, wd_D hH.2.1, hS1⟩ hL)
  · exact va_putN hC.1 hC.2.1 (Ts := lw_big) (fun w hw => ts_u hC hw) h3 ty0 h4 h5 hC.2.2.2.2.2.1 hC.2.2.2.2.2.2.2.1 hH.1 hH.2.1 hH.2.2 a (wd_get hq) h1 j h2 (ts_n hC rfl h8) (fun _ h => h) h6 h7 rfl rfl hl h (fun H1 locs1 hP1 hD1 hS1 => k d hd E p la e s m args below meth c H1 locs1 ls hC ⟨by rw [← wd_setF hq hj]; exact hP1, wd_D hH.2.1, hS1⟩ hL)
theorem Vj_putL {sh : Shp} {kd : Nat} {M : MI} {Post : Option Value → Mem → Prop} {pc q : Nat} {l : List (Option Value)} {st : List Value} {σ : Mem} {a ix ci j z : Nat} {x : Int64} {fs : List (Nat × Nat)} (hf : FLk M.1.cls ix ci j false .long) (hq : sh[a]? = some (.inr (ci, fs))) (hj : fs[j]? = some (1, z)) (h : decode M.2.1 pc = .ok (.putfield ix, 3)) (hp : pc + 3 = q) (k : Vj sh kd M Post q l st (uL σ a j x)) : Vj sh kd M Post pc l (.long x :: .ref a :: st) σ := by
  subst hp
  intro d hd E p la e s m args below meth c H locs ls hC hH hL
  obtain ⟨C, T, N, ty0, h1, h2, h3, h4, h5, h6, h7, h8⟩ := hf
  have hl : j < (fs.mapIdx (fun k f => cvF E.1 σ a k f)).length := by rw [List.length_mapIdx]; exact (List.getElem?_eq_some_iff.mp hj).1
  rcases h8 with h8 | ⟨host, h8⟩
  · exact va_put hC.1 hC.2.1 (Ts := lw_big) (fun w hw => ts_u hC hw) h3 ty0 h4 h5 hC.2.2.2.2.2.1 hC.2.2.2.2.2.2.2.1 hH.1 hH.2.1 hH.2.2 a (wd_get hq) h1 j h2 (ts_u hC h8) (fun _ h => h) h6 h7 rfl rfl hl h (fun H1 locs1 hP1 hD1 hS1 => k d hd E p la e s m args below meth c H1 locs1 ls hC ⟨by rw [← wd_setG hq hj]; exact hP1, wd_D hH.2.1, hS1⟩ hL)
  · exact va_putN hC.1 hC.2.1 (Ts := lw_big) (fun w hw => ts_u hC hw) h3 ty0 h4 h5 hC.2.2.2.2.2.1 hC.2.2.2.2.2.2.2.1 hH.1 hH.2.1 hH.2.2 a (wd_get hq) h1 j h2 (ts_n hC rfl h8) (fun _ h => h) h6 h7 rfl rfl hl h (fun H1 locs1 hP1 hD1 hS1 => k d hd E p la e s m args below meth c H1 locs1 ls hC ⟨by rw [← wd_setG hq hj]; exact hP1, wd_D hH.2.1, hS1⟩ hL)
/-! calls -/
def MOk (M : MI) (n : Nat) : Prop := Cond.code M.1 M.2.1 M.2.2.1 M.2.2.2 ∈ lw_big ∧ Cond.initialized M.1.cls ∈ lw_big ∧ (M.1.cls ≠ "java/lang/invoke/MethodHandle" ∧ M.1.cls ≠ "java/lang/invoke/VarHandle" ∧ (parseMethodDescriptor M.1.desc).map (fun d => d.parameters.length) = some n) ∧ M.2.2.1 ≤ 17
def MVi (M : MI) : Prop := Cond.instanceMethod M.1 ∈ lw_big ∧ Cond.selects M.1.cls M.1 M.1 ∈ lw_big
def LKm (own : String) (ix : Nat) (M : MI) : Prop := Cond.methodLink own ix M.1 ∈ lw_big ∨ ∃ host : String, Cond.methodLinkNest own ix M.1 host ∈ lw_nest
theorem good_in {M M' : MI} {n : Nat} (h : MOk M' n) : GoodIn (mWs M) (mWs M') := by
  intro w hw
  rcases List.mem_cons.mp hw with rfl | hw
  · exact ⟨List.mem_cons_of_mem _ h.1, big_good _ h.1⟩
  · exact ⟨List.mem_cons_of_mem _ hw, big_good _ hw⟩
theorem Px_blind {sh : Shp} {E : Qe} {σ : Mem} {av : List Value} : FrameBlind (va_Pc av (Px sh E σ)) := fun a U g mk h =>
  ⟨h.1, h.2.1, h.2.2.1, Sx.go (s := U) (U := U.calling g mk a) (Vm.Alike.refl U.vm) (nest_same (s := U) (U := U.calling g mk a) rfl h.2.2.2.2.1) (fun _ _ _ => rfl) h.2.2.2⟩
theorem Px_now {sh : Shp} {E : Qe} {σ : Mem} {s U : State} {H : Heap} {locs : List Loc} (hH : Hx sh E σ s H locs) (hS : Sx E s s.heap) (hU : U.heap = H) (hW : s.WarmedH U.vm) : Px sh E σ U := by
  refine ⟨by rw [hU]; exact hH.1, hH.2.1, ?_⟩
  rw [hU]
  exact Sx.go hW.alike (nest_go hW hS.2.1) (fun a h1 h2 => hH.2.2.2.1 a h1 h2) hS
theorem cat_sum (ad : Nat → Nat) (st : List Value) : ((st.map (cvv ad)).map fun v => v.category).sum = (st.map fun v => v.category).sum := by
  induction st with
  | nil => rfl
  | cons v st ih => simp only [List.map_cons, List.sum_cons, ih, cvv_cat]
theorem Vj_back {sh : Shp} {kd d : Nat} {M : MI} {Post Mid : Option Value → Mem → Prop} {pc : Nat} {l : List (Option Value)} {rest : List Value} {st0 : List Value} {σ : Mem} {E : Qe} {p : Program} {la : Launch} {e : Jvm.Env} {s : State} {m : MethodId} {args a : Array Value} {below : List Frame} {meth : Method} {c : Code} {H : Heap} {locs : List Loc} {ls : Array Slot} (hd : kd ≤ d)
    (hC : Cx E M p s m args meth c) (hH : Hx sh E σ s H locs) (hL : Lh ls M.2.2.1 E.1 l)
    (hr : va_Run p la e (rmd d) s m args below meth c H locs 0 0 0 0 (F0 m pc ls st0) (rest.map (cvv E.1)) (Qx sh E Mid a) E.2.1)
    (k : ∀ r σ', Mid r σ' → Vj sh kd M Post (pc + 3) l (r.toList ++ rest) σ') : W p la e (rmd d) s m args below meth c H locs 0 0 (MQ below (Qx sh E Post) args s 0 0 E.2.1) (F0 m pc ls st0) := by
  intro T hT X
  obtain ⟨v, st₀, t, T', L, h0, X', hLo, e1, e2, ⟨⟨r, σ', hv, hp, hPt⟩, hz, hk⟩, st⟩ := hr T hT X
  cases hv
  rw [h0] at hz hk
  have hS : va_S E.2.1 s.heap H locs := hH.2.2
  have hS' : va_S E.2.1 s.heap T'.heap (locs ++ L) := ⟨Nat.le_trans hS.1 (by rw [e1]; exact hz), fun q h1 h2 => by rw [e1, hk q (Nat.lt_of_lt_of_le h1 hS.1) h2]; exact hS.2.1 q h1 h2, fun q hq => by
    rcases List.mem_append.mp hq with h | h
    · exact hS.2.2 q h
    · exact hLo q h⟩
  obtain ⟨t2, a1, b1⟩ := k r σ' hp d hd E p la e s m args below meth c T'.heap (locs ++ L) ls hC ⟨by rw [e1]; exact hPt, wd_D hH.2.1, hS'⟩ hL T' rfl X'
  refine ⟨t2, st t2 ?_, b1⟩
  cases r <;> exact a1
theorem Vj_callV {sh : Shp} {kd k' : Nat} {M M' : MI} {Post Mid : Option Value → Mem → Prop} {pc q ix a ci N : Nat} {T : u_T} {fs : List (Nat × Nat)} {l : List (Option Value)} {av rest st0 : List Value} {σ : Mem} (hc : Ct sh k' M' (.ref a :: av) σ Mid) (hk : k' + 1 ≤ kd) (hq : sh[a]? = some (.inr (ci, fs))) (hcl : vwCl[ci]? = some (M'.1.cls, T, N)) (hLk : LKm M.1.cls ix M') (hV : MVi M') (hM : MOk M' av.length)
    (h : decode M.2.1 pc = .ok (.invokevirtual ix, 3)) (hp : pc + 3 = q) (hst : st0 = av.reverse ++ .ref a :: rest) (hcat : (rest.map fun v => v.category).sum ≤ 8) (k : ∀ r σ', Mid r σ' → Vj sh kd M Post q l (r.toList ++ rest) σ') : Vj sh kd M Post pc l st0 σ := by
  subst hp
  subst hst
  intro d hd E p la e s m args below meth c H locs ls hC hH hL
  obtain ⟨d', rfl⟩ : ∃ d', d = d' + 1 := ⟨d - 1, by omega⟩
  have hMet := hc d' (by omega) E la
  have hG := good_in (M := M) hM
  have hpre : PreV s H M'.1.cls (E.1 a) (va_Pc ((Value.ref a :: av).map (cvv E.1)) (Px sh E σ)) (av.map (cvv E.1)) := ⟨Px_blind, va_recv hC.2.2.2.2.2.2.2.1 hH.1 hcl (wd_get hq), fun U hU hW => ⟨rfl, Px_now hH hC.2.2.2.2.2.2.2 hU hW⟩⟩
  have hR : (rmd d').frames + 1 ≤ (rmd (d' + 1)).frames ∧ 8 + (M'.2.2.1 + 11) + (rmd d').locals ≤ (rmd (d' + 1)).locals := ⟨Nat.le_refl _, by have := hM.2.2.2; simp only [rmd]; omega⟩
  have hst : (av.reverse ++ Value.ref a :: rest).map (cvv E.1) = (av.map (cvv E.1)).reverse ++ Value.ref (E.1 a) :: rest.map (cvv E.1) := by simp [cvv]
  have hroom := lv_room (m := m) (pc := pc) (ls := ls) (rest := (av.reverse ++ Value.ref a :: rest).map (cvv E.1)) (st := rest.map (cvv E.1)) (by rw [cat_sum]; exact hcat)
  rcases hLk with hl | ⟨host, hl⟩
  · exact Vj_back hd hC hH hL (va_runV ⟨hC.1, hC.2.1, hC.2.2.1, hC.2.2.2.2.2.1, hC.2.2.2.2.2.2.1⟩ hMet ⟨callB_of av.length hC.2.2.2.2.2.2.1 hG rfl rfl rfl (ts_u hC hM.2.1) (ts_u hC hl) hM.2.2.1 hR, ts_u hC hV.1, ts_u hC hV.2⟩ hpre rfl (by simp) hL.1 hst hroom h ⟨Nat.zero_le _, Nat.zero_le _⟩) k
  · exact Vj_back hd hC hH hL (va_runVN ⟨hC.1, hC.2.1, hC.2.2.1, hC.2.2.2.2.2.1, hC.2.2.2.2.2.2.1⟩ hMet ⟨va_cnB av.length hC.2.2.2.2.2.2.1 hG rfl rfl rfl (hC.2.2.2.2.2.2.2.2.1 _ hl) (ts_u hC hM.2.1) hM.2.2.1 hR, ts_u hC hV.1, ts_u hC hV.2⟩ hpre rfl (by simp) hL.1 hst hroom h ⟨Nat.zero_le _, Nat.zero_le _⟩) k
theorem Vj_callS {sh : Shp} {kd k' : Nat} {M M' : MI} {Post Mid : Option Value → Mem → Prop} {pc q ix : Nat} {l : List (Option Value)} {av rest st0 : List Value} {σ : Mem} (hc : Ct sh k' M' av σ Mid) (hk : k' + 1 ≤ kd) (hLk : LKm M.1.cls ix M') (hV : Cond.static M'.1 ∈ lw_big) (hM : MOk M' av.length)
    (h : decode M.2.1 pc = .ok (.invokestatic ix, 3)) (hp : pc + 3 = q) (hst : st0 = av.reverse ++ rest) (hcat : (rest.map fun v => v.category).sum ≤ 8) (k : ∀ r σ', Mid r σ' → Vj sh kd M Post q l (r.toList ++ rest) σ') : Vj sh kd M Post pc l st0 σ := by
  subst hp
  subst hst
  intro d hd E p la e s m args below meth c H locs ls hC hH hL
  obtain ⟨d', rfl⟩ : ∃ d', d = d' + 1 := ⟨d - 1, by omega⟩
  have hMet := hc d' (by omega) E la
  have hG := good_in (M := M) hM
  have hpre : PreS s H (va_Pc (av.map (cvv E.1)) (Px sh E σ)) (av.map (cvv E.1)) := ⟨Px_blind, fun U hU hW => ⟨rfl, Px_now hH hC.2.2.2.2.2.2.2 hU hW⟩⟩
  have hR : (rmd d').frames + 1 ≤ (rmd (d' + 1)).frames ∧ 8 + (M'.2.2.1 + 11) + (rmd d').locals ≤ (rmd (d' + 1)).locals := ⟨Nat.le_refl _, by have := hM.2.2.2; simp only [rmd]; omega⟩
  have hst : (av.reverse ++ rest).map (cvv E.1) = (av.map (cvv E.1)).reverse ++ rest.map (cvv E.1) := by simp
  have hroom := lv_room (m := m) (pc := pc) (ls := ls) (rest := (av.reverse ++ rest).map (cvv E.1)) (st := rest.map (cvv E.1)) (by rw [cat_sum]; exact hcat)
  rcases hLk with hl | ⟨host, hl⟩
  · exact Vj_back hd hC hH hL (va_runS ⟨hC.1, hC.2.1, hC.2.2.1, hC.2.2.2.2.2.1, hC.2.2.2.2.2.2.1⟩ hMet ⟨callB_of av.length hC.2.2.2.2.2.2.1 hG rfl rfl rfl (ts_u hC hM.2.1) (ts_u hC hl) hM.2.2.1 hR, ts_u hC hV⟩ hpre rfl (by simp) hL.1 hst hroom h ⟨Nat.zero_le _, Nat.zero_le _⟩) k
  · exact Vj_back hd hC hH hL (va_runSN ⟨hC.1, hC.2.1, hC.2.2.1, hC.2.2.2.2.2.1, hC.2.2.2.2.2.2.1⟩ hMet ⟨va_cnB av.length hC.2.2.2.2.2.2.1 hG rfl rfl rfl (hC.2.2.2.2.2.2.2.2.1 _ hl) (ts_u hC hM.2.1) hM.2.2.1 hR, ts_u hC hV, trivial⟩ hpre rfl (by simp) hL.1 hst hroom h ⟨Nat.zero_le _, Nat.zero_le _⟩) k

def LKj (own : String) (ix : Nat) (y : MethodName) (code : Cond) : Prop := Cond.methodLink own ix y ∈ lw_big ∧ Cond.static y ∈ lw_big ∧ code ∈ lw_big
theorem Vj_mmax {sh : Shp} {kd : Nat} {M : MI} {Post : Option Value → Mem → Prop} {pc q : Nat} {l : List (Option Value)} {st : List Value} {σ : Mem} {ix : Nat} {x y : Int32} (hl : LKj M.1.cls ix Lib.Math.max.name (Cond.code Lib.Math.max.name Lib.Math.max.code 2 (some .int))) (hi : Cond.initialized "java/lang/Math" ∈ lw_big) (hk : 1 ≤ kd) (h : decode M.2.1 pc = .ok (.invokestatic ix, 3)) (hp : pc + 3 = q) (hcat : (st.map fun v => v.category).sum ≤ 8) (k : Vj sh kd M Post q l (.int (if x < y then y else x) :: st) σ) : Vj sh kd M Post pc l (.int y :: .int x :: st) σ := by
  subst hp
  intro d hd E p la e s m args below meth c H locs ls hC hH hL
  have h36 : 36 ≤ (rmd d).locals := by simp only [rmd]; omega
  have h1 : 1 ≤ (rmd d).frames := by simp only [rmd]; omega
  have hc8 := cat_sum E.1 st
  exact va_mmax hC.1 hC.2.1 (hC.2.2.1.trans hL.1.symm) hC.2.2.2.2.2.1 (ts_u hC hl.1) (ts_u hC hl.2.1) (ts_u hC hi) (ts_u hC hl.2.2) h1 (by omega) (Nat.zero_le _) (Nat.zero_le _) h (k d hd E p la e s m args below meth c H locs ls hC hH hL)
theorem Vj_mabs {sh : Shp} {kd : Nat} {M : MI} {Post : Option Value → Mem → Prop} {pc q : Nat} {l : List (Option Value)} {st : List Value} {σ : Mem} {ix : Nat} {x : Int32} (hl : LKj M.1.cls ix Lib.Math.abs.name (Cond.code Lib.Math.abs.name Lib.Math.abs.code 1 (some .int))) (hi : Cond.initialized "java/lang/Math" ∈ lw_big) (hk : 1 ≤ kd) (h : decode M.2.1 pc = .ok (.invokestatic ix, 3)) (hp : pc + 3 = q) (hcat : (st.map fun v => v.category).sum ≤ 8) (k : Vj sh kd M Post q l (.int (if 0 ≤ x then x else 0 - x) :: st) σ) : Vj sh kd M Post pc l (.int x :: st) σ := by
  subst hp
  intro d hd E p la e s m args below meth c H locs ls hC hH hL
  have h36 : 36 ≤ (rmd d).locals := by simp only [rmd]; omega
  have h1 : 1 ≤ (rmd d).frames := by simp only [rmd]; omega
  have hc8 := cat_sum E.1 st
  exact va_mabs hC.1 hC.2.1 (hC.2.2.1.trans hL.1.symm) hC.2.2.2.2.2.1 (ts_u hC hl.1) (ts_u hC hl.2.1) (ts_u hC hi) (ts_u hC hl.2.2) h1 (by omega) (Nat.zero_le _) (Nat.zero_le _) h (k d hd E p la e s m args below meth c H locs ls hC hH hL)
/-! ends -/
theorem Vj_iret {sh : Shp} {kd : Nat} {M : MI} {Post : Option Value → Mem → Prop} {pc q : Nat} {l : List (Option Value)} {st : List Value} {σ : Mem} {v : Int32} {ty : FieldType} (hr : M.2.2.2 = some ty) (hn : narrow ty (.int v) = .int v) (h : decode M.2.1 pc = .ok (.ireturn, 1)) (hP : Post (some (.int v)) σ) : Vj sh kd M Post pc l [.int v] σ := by
  intro d hd E p la e s m args below meth c H locs ls hC hH hL
  exact W.zret hC.1 hC.2.1 (hC.2.2.2.1.trans hr) hn (fun t ht hW => ⟨⟨some (.int v), σ, rfl, hP, by rw [ht]; exact hH.1⟩, hH.2.2.F ht⟩) hH.2.2.2.2 h (hlocks := hC.2.2.2.2.1)
theorem Vj_lret {sh : Shp} {kd : Nat} {M : MI} {Post : Option Value → Mem → Prop} {pc q : Nat} {l : List (Option Value)} {st : List Value} {σ : Mem} {v : Int64} (hr : M.2.2.2 = some .long) (h : decode M.2.1 pc = .ok (.lreturn, 1)) (hP : Post (some (.long v)) σ) : Vj sh kd M Post pc l [.long v] σ := by
  intro d hd E p la e s m args below meth c H locs ls hC hH hL
  exact W.lret hC.1 hC.2.1 (hC.2.2.2.1.trans hr) (fun t ht hW => ⟨⟨some (.long v), σ, rfl, hP, by rw [ht]; exact hH.1⟩, hH.2.2.F ht⟩) hH.2.2.2.2 h (hlocks := hC.2.2.2.2.1)
theorem Vj_vret {sh : Shp} {kd : Nat} {M : MI} {Post : Option Value → Mem → Prop} {pc q : Nat} {l : List (Option Value)} {st : List Value} {σ : Mem} (hr : M.2.2.2 = none) (h : decode M.2.1 pc = .ok (.return_, 1)) (hP : Post none σ) : Vj sh kd M Post pc l [] σ := by
  intro d hd E p la e s m args below meth c H locs ls hC hH hL
  exact W.vret hC.1 hC.2.1 (hC.2.2.2.1.trans hr) (fun t ht hW => ⟨⟨none, σ, rfl, hP, by rw [ht]; exact hH.1⟩, hH.2.2.F ht⟩) hH.2.2.2.2 h (hlocks := hC.2.2.2.2.1)
theorem Vs_istore0 {sh : Shp} {kd : Nat} {M : MI} {Post : Option Value → Mem → Prop} {pc q : Nat} {r : List (Option Value)} {st : List Value} {σ : Mem} {z : Option Value} {x : Int32} (h : decode M.2.1 pc = .ok (.istore_n 0, 1)) (hp : pc + 1 = q) (hn : 0 < M.2.2.1) (k : Vj sh kd M Post q (some (.int x) :: r) st σ) : Vj sh kd M Post pc (z :: r) (.int x :: st) σ := Vj_istoren (i := 0) h hp rfl hn rfl k
theorem Vs_astore0 {sh : Shp} {kd : Nat} {M : MI} {Post : Option Value → Mem → Prop} {pc q : Nat} {r : List (Option Value)} {st : List Value} {σ : Mem} {z : Option Value} {x : Nat} (h : decode M.2.1 pc = .ok (.astore_n 0, 1)) (hp : pc + 1 = q) (hn : 0 < M.2.2.1) (k : Vj sh kd M Post q (some (.ref x) :: r) st σ) : Vj sh kd M Post pc (z :: r) (.ref x :: st) σ := Vj_astoren (i := 0) h hp rfl hn rfl k
theorem Vs_iinc0 {sh : Shp} {kd : Nat} {M : MI} {Post : Option Value → Mem → Prop} {pc q : Nat} {r : List (Option Value)} {st : List Value} {σ : Mem} {z : Option Value} {n : Int} {x v : Int32} (h : decode M.2.1 pc = .ok (.iinc 0 n, 3)) (hp : pc + 3 = q) (hv : x + Int32.ofInt n = v) (hn : 0 < M.2.2.1) (k : Vj sh kd M Post q (some (.int v) :: r) st σ) : Vj sh kd M Post pc (some (.int x) :: r) st σ := Vj_iinc (i := 0) h hp rfl hv hn rfl k
theorem Vs_lstore0 {sh : Shp} {kd : Nat} {M : MI} {Post : Option Value → Mem → Prop} {pc q : Nat} {r : List (Option Value)} {st : List Value} {σ : Mem} {z : Option Value} {z2 : Option Value} {x : Int64} (h : decode M.2.1 pc = .ok (.lstore_n 0, 1)) (hp : pc + 1 = q) (hn : 0 + 1 < M.2.2.1) (k : Vj sh kd M Post q (some (.long x) :: none :: r) st σ) : Vj sh kd M Post pc (z :: z2 :: r) (.long x :: st) σ := Vj_lstoren (i := 0) h hp rfl hn rfl k
theorem Vs_istore1 {sh : Shp} {kd : Nat} {M : MI} {Post : Option Value → Mem → Prop} {pc q : Nat} {r : List (Option Value)} {st : List Value} {σ : Mem} {a0 z : Option Value} {x : Int32} (h : decode M.2.1 pc = .ok (.istore_n 1, 1)) (hp : pc + 1 = q) (hn : 1 < M.2.2.1) (hk : okP [a0] 1 = true) (k : Vj sh kd M Post q (a0 :: some (.int x) :: r) st σ) : Vj sh kd M Post pc (a0 :: z :: r) (.int x :: st) σ := Vj_istoren (i := 1) h hp rfl hn hk k
theorem Vs_astore1 {sh : Shp} {kd : Nat} {M : MI} {Post : Option Value → Mem → Prop} {pc q : Nat} {r : List (Option Value)} {st : List Value} {σ : Mem} {a0 z : Option Value} {x : Nat} (h : decode M.2.1 pc = .ok (.astore_n 1, 1)) (hp : pc + 1 = q) (hn : 1 < M.2.2.1) (hk : okP [a0] 1 = true) (k : Vj sh kd M Post q (a0 :: some (.ref x) :: r) st σ) : Vj sh kd M Post pc (a0 :: z :: r) (.ref x :: st) σ := Vj_astoren (i := 1) h hp rfl hn hk k
theorem Vs_iinc1 {sh : Shp} {kd : Nat} {M : MI} {Post : Option Value → Mem → Prop} {pc q : Nat} {r : List (Option Value)} {st : List Value} {σ : Mem} {a0 z : Option Value} {n : Int} {x v : Int32} (h : decode M.2.1 pc = .ok (.iinc 1 n, 3)) (hp : pc + 3 = q) (hv : x + Int32.ofInt n = v) (hn : 1 < M.2.2.1) (hk : okP [a0] 1 = true) (k : Vj sh kd M Post q (a0 :: some (.int v) :: r) st σ) : Vj sh kd M Post pc (a0 :: some (.int x) :: r) st σ := Vj_iinc (i := 1) h hp rfl hv hn hk k
theorem Vs_lstore1 {sh : Shp} {kd : Nat} {M : MI} {Post : Option Value → Mem → Prop} {pc q : Nat} {r : List (Option Value)} {st : List Value} {σ : Mem} {a0 z : Option Value} {z2 : Option Value} {x : Int64} (h : decode M.2.1 pc = .ok (.lstore_n 1, 1)) (hp : pc + 1 = q) (hn : 1 + 1 < M.2.2.1) (hk : okP [a0] 1 = true) (k : Vj sh kd M Post q (a0 :: some (.long x) :: none :: r) st σ) : Vj sh kd M Post pc (a0 :: z :: z2 :: r) (.long x :: st) σ := Vj_lstoren (i := 1) h hp rfl hn hk k
theorem Vs_istore2 {sh : Shp} {kd : Nat} {M : MI} {Post : Option Value → Mem → Prop} {pc q : Nat} {r : List (Option Value)} {st : List Value} {σ : Mem} {a0 a1 z : Option Value} {x : Int32} (h : decode M.2.1 pc = .ok (.istore_n 2, 1)) (hp : pc + 1 = q) (hn : 2 < M.2.2.1) (hk : okP [a0, a1] 2 = true) (k : Vj sh kd M Post q (a0 :: a1 :: some (.int x) :: r) st σ) : Vj sh kd M Post pc (a0 :: a1 :: z :: r) (.int x :: st) σ := Vj_istoren (i := 2) h hp rfl hn hk k
theorem Vs_astore2 {sh : Shp} {kd : Nat} {M : MI} {Post : Option Value → Mem → Prop} {pc q : Nat} {r : List (Option Value)} {st : List Value} {σ : Mem} {a0 a1 z : Option Value} {x : Nat} (h : decode M.2.1 pc = .ok (.astore_n 2, 1)) (hp : pc + 1 = q) (hn : 2 < M.2.2.1) (hk : okP [a0, a1] 2 = true) (k : Vj sh kd M Post q (a0 :: a1 :: some (.ref x) :: r) st σ) : Vj sh kd M Post pc (a0 :: a1 :: z :: r) (.ref x :: st) σ := Vj_astoren (i := 2) h hp rfl hn hk k
theorem Vs_iinc2 {sh : Shp} {kd : Nat} {M : MI} {Post : Option Value → Mem → Prop} {pc q : Nat} {r : List (Option Value)} {st : List Value} {σ : Mem} {a0 a1 z : Option Value} {n : Int} {x v : Int32} (h : decode M.2.1 pc = .ok (.iinc 2 n, 3)) (hp : pc + 3 = q) (hv : x + Int32.ofInt n = v) (hn : 2 < M.2.2.1) (hk : okP [a0, a1] 2 = true) (k : Vj sh kd M Post q (a0 :: a1 :: some (.int v) :: r) st σ) : Vj sh kd M Post pc (a0 :: a1 :: some (.int x) :: r) st σ := Vj_iinc (i := 2) h hp rfl hv hn hk k
theorem Vs_lstore2 {sh : Shp} {kd : Nat} {M : MI} {Post : Option Value → Mem → Prop} {pc q : Nat} {r : List (Option Value)} {st : List Value} {σ : Mem} {a0 a1 z : Option Value} {z2 : Option Value} {x : Int64} (h : decode M.2.1 pc = .ok (.lstore_n 2, 1)) (hp : pc + 1 = q) (hn : 2 + 1 < M.2.2.1) (hk : okP [a0, a1] 2 = true) (k : Vj sh kd M Post q (a0 :: a1 :: some (.long x) :: none :: r) st σ) : Vj sh kd M Post pc (a0 :: a1 :: z :: z2 :: r) (.long x :: st) σ := Vj_lstoren (i := 2) h hp rfl hn hk k
theorem Vs_istore3 {sh : Shp} {kd : Nat} {M : MI} {Post : Option Value → Mem → Prop} {pc q : Nat} {r : List (Option Value)} {st : List Value} {σ : Mem} {a0 a1 a2 z : Option Value} {x : Int32} (h : decode M.2.1 pc = .ok (.istore_n 3, 1)) (hp : pc + 1 = q) (hn : 3 < M.2.2.1) (hk : okP [a0, a1, a2] 3 = true) (k : Vj sh kd M Post q (a0 :: a1 :: a2 :: some (.int x) :: r) st σ) : Vj sh kd M Post pc (a0 :: a1 :: a2 :: z :: r) (.int x :: st) σ := Vj_istoren (i := 3) h hp rfl hn hk k
theorem Vs_astore3 {sh : Shp} {kd : Nat} {M : MI} {Post : Option Value → Mem → Prop} {pc q : Nat} {r : List (Option Value)} {st : List Value} {σ : Mem} {a0 a1 a2 z : Option Value} {x : Nat} (h : decode M.2.1 pc = .ok (.astore_n 3, 1)) (hp : pc + 1 = q) (hn : 3 < M.2.2.1) (hk : okP [a0, a1, a2] 3 = true) (k : Vj sh kd M Post q (a0 :: a1 :: a2 :: some (.ref x) :: r) st σ) : Vj sh kd M Post pc (a0 :: a1 :: a2 :: z :: r) (.ref x :: st) σ := Vj_astoren (i := 3) h hp rfl hn hk k
theorem Vs_iinc3 {sh : Shp} {kd : Nat} {M : MI} {Post : Option Value → Mem → Prop} {pc q : Nat} {r : List (Option Value)} {st : List Value} {σ : Mem} {a0 a1 a2 z : Option Value} {n : Int} {x v : Int32} (h : decode M.2.1 pc = .ok (.iinc 3 n, 3)) (hp : pc + 3 = q) (hv : x + Int32.ofInt n = v) (hn : 3 < M.2.2.1) (hk : okP [a0, a1, a2] 3 = true) (k : Vj sh kd M Post q (a0 :: a1 :: a2 :: some (.int v) :: r) st σ) : Vj sh kd M Post pc (a0 :: a1 :: a2 :: some (.int x) :: r) st σ := Vj_iinc (i := 3) h hp rfl hv hn hk k
theorem Vs_lstore3 {sh : Shp} {kd : Nat} {M : MI} {Post : Option Value → Mem → Prop} {pc q : Nat} {r : List (Option Value)} {st : List Value} {σ : Mem} {a0 a1 a2 z : Option Value} {z2 : Option Value} {x : Int64} (h : decode M.2.1 pc = .ok (.lstore_n 3, 1)) (hp : pc + 1 = q) (hn : 3 + 1 < M.2.2.1) (hk : okP [a0, a1, a2] 3 = true) (k : Vj sh kd M Post q (a0 :: a1 :: a2 :: some (.long x) :: none :: r) st σ) : Vj sh kd M Post pc (a0 :: a1 :: a2 :: z :: z2 :: r) (.long x :: st) σ := Vj_lstoren (i := 3) h hp rfl hn hk k
theorem Vs_istore4 {sh : Shp} {kd : Nat} {M : MI} {Post : Option Value → Mem → Prop} {pc q : Nat} {r : List (Option Value)} {st : List Value} {σ : Mem} {a0 a1 a2 a3 z : Option Value} {x : Int32} (h : decode M.2.1 pc = .ok (.istore 4, 2)) (hp : pc + 2 = q) (hn : 4 < M.2.2.1) (hk : okP [a0, a1, a2, a3] 4 = true) (k : Vj sh kd M Post q (a0 :: a1 :: a2 :: a3 :: some (.int x) :: r) st σ) : Vj sh kd M Post pc (a0 :: a1 :: a2 :: a3 :: z :: r) (.int x :: st) σ := Vj_istore (i := 4) h hp hn hk k
theorem Vs_astore4 {sh : Shp} {kd : Nat} {M : MI} {Post : Option Value → Mem → Prop} {pc q : Nat} {r : List (Option Value)} {st : List Value} {σ : Mem} {a0 a1 a2 a3 z : Option Value} {x : Nat} (h : decode M.2.1 pc = .ok (.astore 4, 2)) (hp : pc + 2 = q) (hn : 4 < M.2.2.1) (hk : okP [a0, a1, a2, a3] 4 = true) (k : Vj sh kd M Post q (a0 :: a1 :: a2 :: a3 :: some (.ref x) :: r) st σ) : Vj sh kd M Post pc (a0 :: a1 :: a2 :: a3 :: z :: r) (.ref x :: st) σ := Vj_astore (i := 4) h hp hn hk k
theorem Vs_iinc4 {sh : Shp} {kd : Nat} {M : MI} {Post : Option Value → Mem → Prop} {pc q : Nat} {r : List (Option Value)} {st : List Value} {σ : Mem} {a0 a1 a2 a3 z : Option Value} {n : Int} {x v : Int32} (h : decode M.2.1 pc = .ok (.iinc 4 n, 3)) (hp : pc + 3 = q) (hv : x + Int32.ofInt n = v) (hn : 4 < M.2.2.1) (hk : okP [a0, a1, a2, a3] 4 = true) (k : Vj sh kd M Post q (a0 :: a1 :: a2 :: a3 :: some (.int v) :: r) st σ) : Vj sh kd M Post pc (a0 :: a1 :: a2 :: a3 :: some (.int x) :: r) st σ := Vj_iinc (i := 4) h hp rfl hv hn hk k
theorem Vs_istore5 {sh : Shp} {kd : Nat} {M : MI} {Post : Option Value → Mem → Prop} {pc q : Nat} {r : List (Option Value)} {st : List Value} {σ : Mem} {a0 a1 a2 a3 a4 z : Option Value} {x : Int32} (h : decode M.2.1 pc = .ok (.istore 5, 2)) (hp : pc + 2 = q) (hn : 5 < M.2.2.1) (hk : okP [a0, a1, a2, a3, a4] 5 = true) (k : Vj sh kd M Post q (a0 :: a1 :: a2 :: a3 :: a4 :: some (.int x) :: r) st σ) : Vj sh kd M Post pc (a0 :: a1 :: a2 :: a3 :: a4 :: z :: r) (.int x :: st) σ := Vj_istore (i := 5) h hp hn hk k
theorem Vs_astore5 {sh : Shp} {kd : Nat} {M : MI} {Post : Option Value → Mem → Prop} {pc q : Nat} {r : List (Option Value)} {st : List Value} {σ : Mem} {a0 a1 a2 a3 a4 z : Option Value} {x : Nat} (h : decode M.2.1 pc = .ok (.astore 5, 2)) (hp : pc + 2 = q) (hn : 5 < M.2.2.1) (hk : okP [a0, a1, a2, a3, a4] 5 = true) (k : Vj sh kd M Post q (a0 :: a1 :: a2 :: a3 :: a4 :: some (.ref x) :: r) st σ) : Vj sh kd M Post pc (a0 :: a1 :: a2 :: a3 :: a4 :: z :: r) (.ref x :: st) σ := Vj_astore (i := 5) h hp hn hk k
theorem Vs_iinc5 {sh : Shp} {kd : Nat} {M : MI} {Post : Option Value → Mem → Prop} {pc q : Nat} {r : List (Option Value)} {st : List Value} {σ : Mem} {a0 a1 a2 a3 a4 z : Option Value} {n : Int} {x v : Int32} (h : decode M.2.1 pc = .ok (.iinc 5 n, 3)) (hp : pc + 3 = q) (hv : x + Int32.ofInt n = v) (hn : 5 < M.2.2.1) (hk : okP [a0, a1, a2, a3, a4] 5 = true) (k : Vj sh kd M Post q (a0 :: a1 :: a2 :: a3 :: a4 :: some (.int v) :: r) st σ) : Vj sh kd M Post pc (a0 :: a1 :: a2 :: a3 :: a4 :: some (.int x) :: r) st σ := Vj_iinc (i := 5) h hp rfl hv hn hk k
theorem Vs_istore6 {sh : Shp} {kd : Nat} {M : MI} {Post : Option Value → Mem → Prop} {pc q : Nat} {r : List (Option Value)} {st : List Value} {σ : Mem} {a0 a1 a2 a3 a4 a5 z : Option Value} {x : Int32} (h : decode M.2.1 pc = .ok (.istore 6, 2)) (hp : pc + 2 = q) (hn : 6 < M.2.2.1) (hk : okP [a0, a1, a2, a3, a4, a5] 6 = true) (k : Vj sh kd M Post q (a0 :: a1 :: a2 :: a3 :: a4 :: a5 :: some (.int x) :: r) st σ) : Vj sh kd M Post pc (a0 :: a1 :: a2 :: a3 :: a4 :: a5 :: z :: r) (.int x :: st) σ := Vj_istore (i := 6) h hp hn hk k
theorem Vs_astore6 {sh : Shp} {kd : Nat} {M : MI} {Post : Option Value → Mem → Prop} {pc q : Nat} {r : List (Option Value)} {st : List Value} {σ : Mem} {a0 a1 a2 a3 a4 a5 z : Option Value} {x : Nat} (h : decode M.2.1 pc = .ok (.astore 6, 2)) (hp : pc + 2 = q) (hn : 6 < M.2.2.1) (hk : okP [a0, a1, a2, a3, a4, a5] 6 = true) (k : Vj sh kd M Post q (a0 :: a1 :: a2 :: a3 :: a4 :: a5 :: some (.ref x) :: r) st σ) : Vj sh kd M Post pc (a0 :: a1 :: a2 :: a3 :: a4 :: a5 :: z :: r) (.ref x :: st) σ := Vj_astore (i := 6) h hp hn hk k
theorem Vs_iinc6 {sh : Shp} {kd : Nat} {M : MI} {Post : Option Value → Mem → Prop} {pc q : Nat} {r : List (Option Value)} {st : List Value} {σ : Mem} {a0 a1 a2 a3 a4 a5 z : Option Value} {n : Int} {x v : Int32} (h : decode M.2.1 pc = .ok (.iinc 6 n, 3)) (hp : pc + 3 = q) (hv : x + Int32.ofInt n = v) (hn : 6 < M.2.2.1) (hk : okP [a0, a1, a2, a3, a4, a5] 6 = true) (k : Vj sh kd M Post q (a0 :: a1 :: a2 :: a3 :: a4 :: a5 :: some (.int v) :: r) st σ) : Vj sh kd M Post pc (a0 :: a1 :: a2 :: a3 :: a4 :: a5 :: some (.int x) :: r) st σ := Vj_iinc (i := 6) h hp rfl hv hn hk k
theorem Vs_istore7 {sh : Shp} {kd : Nat} {M : MI} {Post : Option Value → Mem → Prop} {pc q : Nat} {r : List (Option Value)} {st : List Value} {σ : Mem} {a0 a1 a2 a3 a4 a5 a6 z : Option Value} {x : Int32} (h : decode M.2.1 pc = .ok (.istore 7, 2)) (hp : pc + 2 = q) (hn : 7 < M.2.2.1) (hk : okP [a0, a1, a2, a3, a4, a5, a6] 7 = true) (k : Vj sh kd M Post q (a0 :: a1 :: a2 :: a3 :: a4 :: a5 :: a6 :: some (.int x) :: r) st σ) : Vj sh kd M Post pc (a0 :: a1 :: a2 :: a3 :: a4 :: a5 :: a6 :: z :: r) (.int x :: st) σ := Vj_istore (i := 7) h hp hn hk k
theorem Vs_astore7 {sh : Shp} {kd : Nat} {M : MI} {Post : Option Value → Mem → Prop} {pc q : Nat} {r : List (Option Value)} {st : List Value} {σ : Mem} {a0 a1 a2 a3 a4 a5 a6 z : Option Value} {x : Nat} (h : decode M.2.1 pc = .ok (.astore 7, 2)) (hp : pc + 2 = q) (hn : 7 < M.2.2.1) (hk : okP [a0, a1, a2, a3, a4, a5, a6] 7 = true) (k : Vj sh kd M Post q (a0 :: a1 :: a2 :: a3 :: a4 :: a5 :: a6 :: some (.ref x) :: r) st σ) : Vj sh kd M Post pc (a0 :: a1 :: a2 :: a3 :: a4 :: a5 :: a6 :: z :: r) (.ref x :: st) σ := Vj_astore (i := 7) h hp hn hk k
theorem Vs_iinc7 {sh : Shp} {kd : Nat} {M : MI} {Post : Option Value → Mem → Prop} {pc q : Nat} {r : List (Option Value)} {st : List Value} {σ : Mem} {a0 a1 a2 a3 a4 a5 a6 z : Option Value} {n : Int} {x v : Int32} (h : decode M.2.1 pc = .ok (.iinc 7 n, 3)) (hp : pc + 3 = q) (hv : x + Int32.ofInt n = v) (hn : 7 < M.2.2.1) (hk : okP [a0, a1, a2, a3, a4, a5, a6] 7 = true) (k : Vj sh kd M Post q (a0 :: a1 :: a2 :: a3 :: a4 :: a5 :: a6 :: some (.int v) :: r) st σ) : Vj sh kd M Post pc (a0 :: a1 :: a2 :: a3 :: a4 :: a5 :: a6 :: some (.int x) :: r) st σ := Vj_iinc (i := 7) h hp rfl hv hn hk k
theorem Vs_istore8 {sh : Shp} {kd : Nat} {M : MI} {Post : Option Value → Mem → Prop} {pc q : Nat} {r : List (Option Value)} {st : List Value} {σ : Mem} {a0 a1 a2 a3 a4 a5 a6 a7 z : Option Value} {x : Int32} (h : decode M.2.1 pc = .ok (.istore 8, 2)) (hp : pc + 2 = q) (hn : 8 < M.2.2.1) (hk : okP [a0, a1, a2, a3, a4, a5, a6, a7] 8 = true) (k : Vj sh kd M Post q (a0 :: a1 :: a2 :: a3 :: a4 :: a5 :: a6 :: a7 :: some (.int x) :: r) st σ) : Vj sh kd M Post pc (a0 :: a1 :: a2 :: a3 :: a4 :: a5 :: a6 :: a7 :: z :: r) (.int x :: st) σ := Vj_istore (i := 8) h hp hn hk k
theorem Vs_astore8 {sh : Shp} {kd : Nat} {M : MI} {Post : Option Value → Mem → Prop} {pc q : Nat} {r : List (Option Value)} {st : List Value} {σ : Mem} {a0 a1 a2 a3 a4 a5 a6 a7 z : Option Value} {x : Nat} (h : decode M.2.1 pc = .ok (.astore 8, 2)) (hp : pc + 2 = q) (hn : 8 < M.2.2.1) (hk : okP [a0, a1, a2, a3, a4, a5, a6, a7] 8 = true) (k : Vj sh kd M Post q (a0 :: a1 :: a2 :: a3 :: a4 :: a5 :: a6 :: a7 :: some (.ref x) :: r) st σ) : Vj sh kd M Post pc (a0 :: a1 :: a2 :: a3 :: a4 :: a5 :: a6 :: a7 :: z :: r) (.ref x :: st) σ := Vj_astore (i := 8) h hp hn hk k
theorem Vs_iinc8 {sh : Shp} {kd : Nat} {M : MI} {Post : Option Value → Mem → Prop} {pc q : Nat} {r : List (Option Value)} {st : List Value} {σ : Mem} {a0 a1 a2 a3 a4 a5 a6 a7 z : Option Value} {n : Int} {x v : Int32} (h : decode M.2.1 pc = .ok (.iinc 8 n, 3)) (hp : pc + 3 = q) (hv : x + Int32.ofInt n = v) (hn : 8 < M.2.2.1) (hk : okP [a0, a1, a2, a3, a4, a5, a6, a7] 8 = true) (k : Vj sh kd M Post q (a0 :: a1 :: a2 :: a3 :: a4 :: a5 :: a6 :: a7 :: some (.int v) :: r) st σ) : Vj sh kd M Post pc (a0 :: a1 :: a2 :: a3 :: a4 :: a5 :: a6 :: a7 :: some (.int x) :: r) st σ := Vj_iinc (i := 8) h hp rfl hv hn hk k
theorem Vs_istore9 {sh : Shp} {kd : Nat} {M : MI} {Post : Option Value → Mem → Prop} {pc q : Nat} {r : List (Option Value)} {st : List Value} {σ : Mem} {a0 a1 a2 a3 a4 a5 a6 a7 a8 z : Option Value} {x : Int32} (h : decode M.2.1 pc = .ok (.istore 9, 2)) (hp : pc + 2 = q) (hn : 9 < M.2.2.1) (hk : okP [a0, a1, a2, a3, a4, a5, a6, a7, a8] 9 = true) (k : Vj sh kd M Post q (a0 :: a1 :: a2 :: a3 :: a4 :: a5 :: a6 :: a7 :: a8 :: some (.int x) :: r) st σ) : Vj sh kd M Post pc (a0 :: a1 :: a2 :: a3 :: a4 :: a5 :: a6 :: a7 :: a8 :: z :: r) (.int x :: st) σ := Vj_istore (i := 9) h hp hn hk k
theorem Vs_astore9 {sh : Shp} {kd : Nat} {M : MI} {Post : Option Value → Mem → Prop} {pc q : Nat} {r : List (Option Value)} {st : List Value} {σ : Mem} {a0 a1 a2 a3 a4 a5 a6 a7 a8 z : Option Value} {x : Nat} (h : decode M.2.1 pc = .ok (.astore 9, 2)) (hp : pc + 2 = q) (hn : 9 < M.2.2.1) (hk : okP [a0, a1, a2, a3, a4, a5, a6, a7, a8] 9 = true) (k : Vj sh kd M Post q (a0 :: a1 :: a2 :: a3 :: a4 :: a5 :: a6 :: a7 :: a8 :: some (.ref x) :: r) st σ) : Vj sh kd M Post pc (a0 :: a1 :: a2 :: a3 :: a4 :: a5 :: a6 :: a7 :: a8 :: z :: r) (.ref x :: st) σ := Vj_astore (i := 9) h hp hn hk k
theorem Vs_iinc9 {sh : Shp} {kd : Nat} {M : MI} {Post : Option Value → Mem → Prop} {pc q : Nat} {r : List (Option Value)} {st : List Value} {σ : Mem} {a0 a1 a2 a3 a4 a5 a6 a7 a8 z : Option Value} {n : Int} {x v : Int32} (h : decode M.2.1 pc = .ok (.iinc 9 n, 3)) (hp : pc + 3 = q) (hv : x + Int32.ofInt n = v) (hn : 9 < M.2.2.1) (hk : okP [a0, a1, a2, a3, a4, a5, a6, a7, a8] 9 = true) (k : Vj sh kd M Post q (a0 :: a1 :: a2 :: a3 :: a4 :: a5 :: a6 :: a7 :: a8 :: some (.int v) :: r) st σ) : Vj sh kd M Post pc (a0 :: a1 :: a2 :: a3 :: a4 :: a5 :: a6 :: a7 :: a8 :: some (.int x) :: r) st σ := Vj_iinc (i := 9) h hp rfl hv hn hk k
theorem Vs_istore10 {sh : Shp} {kd : Nat} {M : MI} {Post : Option Value → Mem → Prop} {pc q : Nat} {r : List (Option Value)} {st : List Value} {σ : Mem} {a0 a1 a2 a3 a4 a5 a6 a7 a8 a9 z : Option Value} {x : Int32} (h : decode M.2.1 pc = .ok (.istore 10, 2)) (hp : pc + 2 = q) (hn : 10 < M.2.2.1) (hk : okP [a0, a1, a2, a3, a4, a5, a6, a7, a8, a9] 10 = true) (k : Vj sh kd M Post q (a0 :: a1 :: a2 :: a3 :: a4 :: a5 :: a6 :: a7 :: a8 :: a9 :: some (.int x) :: r) st σ) : Vj sh kd M Post pc (a0 :: a1 :: a2 :: a3 :: a4 :: a5 :: a6 :: a7 :: a8 :: a9 :: z :: r) (.int x :: st) σ := Vj_istore (i := 10) h hp hn hk k
theorem Vs_astore10 {sh : Shp} {kd : Nat} {M : MI} {Post : Option Value → Mem → Prop} {pc q : Nat} {r : List (Option Value)} {st : List Value} {σ : Mem} {a0 a1 a2 a3 a4 a5 a6 a7 a8 a9 z : Option Value} {x : Nat} (h : decode M.2.1 pc = .ok (.astore 10, 2)) (hp : pc + 2 = q) (hn : 10 < M.2.2.1) (hk : okP [a0, a1, a2, a3, a4, a5, a6, a7, a8, a9] 10 = true) (k : Vj sh kd M Post q (a0 :: a1 :: a2 :: a3 :: a4 :: a5 :: a6 :: a7 :: a8 :: a9 :: some (.ref x) :: r) st σ) : Vj sh kd M Post pc (a0 :: a1 :: a2 :: a3 :: a4 :: a5 :: a6 :: a7 :: a8 :: a9 :: z :: r) (.ref x :: st) σ := Vj_astore (i := 10) h hp hn hk k
theorem Vs_iinc10 {sh : Shp} {kd : Nat} {M : MI} {Post : Option Value → Mem → Prop} {pc q : Nat} {r : List (Option Value)} {st : List Value} {σ : Mem} {a0 a1 a2 a3 a4 a5 a6 a7 a8 a9 z : Option Value} {n : Int} {x v : Int32} (h : decode M.2.1 pc = .ok (.iinc 10 n, 3)) (hp : pc + 3 = q) (hv : x + Int32.ofInt n = v) (hn : 10 < M.2.2.1) (hk : okP [a0, a1, a2, a3, a4, a5, a6, a7, a8, a9] 10 = true) (k : Vj sh kd M Post q (a0 :: a1 :: a2 :: a3 :: a4 :: a5 :: a6 :: a7 :: a8 :: a9 :: some (.int v) :: r) st σ) : Vj sh kd M Post pc (a0 :: a1 :: a2 :: a3 :: a4 :: a5 :: a6 :: a7 :: a8 :: a9 :: some (.int x) :: r) st σ := Vj_iinc (i := 10) h hp rfl hv hn hk k
theorem Vs_istore11 {sh : Shp} {kd : Nat} {M : MI} {Post : Option Value → Mem → Prop} {pc q : Nat} {r : List (Option Value)} {st : List Value} {σ : Mem} {a0 a1 a2 a3 a4 a5 a6 a7 a8 a9 a10 z : Option Value} {x : Int32} (h : decode M.2.1 pc = .ok (.istore 11, 2)) (hp : pc + 2 = q) (hn : 11 < M.2.2.1) (hk : okP [a0, a1, a2, a3, a4, a5, a6, a7, a8, a9, a10] 11 = true) (k : Vj sh kd M Post q (a0 :: a1 :: a2 :: a3 :: a4 :: a5 :: a6 :: a7 :: a8 :: a9 :: a10 :: some (.int x) :: r) st σ) : Vj sh kd M Post pc (a0 :: a1 :: a2 :: a3 :: a4 :: a5 :: a6 :: a7 :: a8 :: a9 :: a10 :: z :: r) (.int x :: st) σ := Vj_istore (i := 11) h hp hn hk k
theorem Vs_astore11 {sh : Shp} {kd : Nat} {M : MI} {Post : Option Value → Mem → Prop} {pc q : Nat} {r : List (Option Value)} {st : List Value} {σ : Mem} {a0 a1 a2 a3 a4 a5 a6 a7 a8 a9 a10 z : Option Value} {x : Nat} (h : decode M.2.1 pc = .ok (.astore 11, 2)) (hp : pc + 2 = q) (hn : 11 < M.2.2.1) (hk : okP [a0, a1, a2, a3, a4, a5, a6, a7, a8, a9, a10] 11 = true) (k : Vj sh kd M Post q (a0 :: a1 :: a2 :: a3 :: a4 :: a5 :: a6 :: a7 :: a8 :: a9 :: a10 :: some (.ref x) :: r) st σ) : Vj sh kd M Post pc (a0 :: a1 :: a2 :: a3 :: a4 :: a5 :: a6 :: a7 :: a8 :: a9 :: a10 :: z :: r) (.ref x :: st) σ := Vj_astore (i := 11) h hp hn hk k
theorem Vs_iinc11 {sh : Shp} {kd : Nat} {M : MI} {Post : Option Value → Mem → Prop} {pc q : Nat} {r : List (Option Value)} {st : List Value} {σ : Mem} {a0 a1 a2 a3 a4 a5 a6 a7 a8 a9 a10 z : Option Value} {n : Int} {x v : Int32} (h : decode M.2.1 pc = .ok (.iinc 11 n, 3)) (hp : pc + 3 = q) (hv : x + Int32.ofInt n = v) (hn : 11 < M.2.2.1) (hk : okP [a0, a1, a2, a3, a4, a5, a6, a7, a8, a9, a10] 11 = true) (k : Vj sh kd M Post q (a0 :: a1 :: a2 :: a3 :: a4 :: a5 :: a6 :: a7 :: a8 :: a9 :: a10 :: some (.int v) :: r) st σ) : Vj sh kd M Post pc (a0 :: a1 :: a2 :: a3 :: a4 :: a5 :: a6 :: a7 :: a8 :: a9 :: a10 :: some (.int x) :: r) st σ := Vj_iinc (i := 11) h hp rfl hv hn hk k
theorem Vs_istore12 {sh : Shp} {kd : Nat} {M : MI} {Post : Option Value → Mem → Prop} {pc q : Nat} {r : List (Option Value)} {st : List Value} {σ : Mem} {a0 a1 a2 a3 a4 a5 a6 a7 a8 a9 a10 a11 z : Option Value} {x : Int32} (h : decode M.2.1 pc = .ok (.istore 12, 2)) (hp : pc + 2 = q) (hn : 12 < M.2.2.1) (hk : okP [a0, a1, a2, a3, a4, a5, a6, a7, a8, a9, a10, a11] 12 = true) (k : Vj sh kd M Post q (a0 :: a1 :: a2 :: a3 :: a4 :: a5 :: a6 :: a7 :: a8 :: a9 :: a10 :: a11 :: some (.int x) :: r) st σ) : Vj sh kd M Post pc (a0 :: a1 :: a2 :: a3 :: a4 :: a5 :: a6 :: a7 :: a8 :: a9 :: a10 :: a11 :: z :: r) (.int x :: st) σ := Vj_istore (i := 12) h hp hn hk k
theorem Vs_astore12 {sh : Shp} {kd : Nat} {M : MI} {Post : Option Value → Mem → Prop} {pc q : Nat} {r : List (Option Value)} {st : List Value} {σ : Mem} {a0 a1 a2 a3 a4 a5 a6 a7 a8 a9 a10 a11 z : Option Value} {x : Nat} (h : decode M.2.1 pc = .ok (.astore 12, 2)) (hp : pc + 2 = q) (hn : 12 < M.2.2.1) (hk : okP [a0, a1, a2, a3, a4, a5, a6, a7, a8, a9, a10, a11] 12 = true) (k : Vj sh kd M Post q (a0 :: a1 :: a2 :: a3 :: a4 :: a5 :: a6 :: a7 :: a8 :: a9 :: a10 :: a11 :: some (.ref x) :: r) st σ) : Vj sh kd M Post pc (a0 :: a1 :: a2 :: a3 :: a4 :: a5 :: a6 :: a7 :: a8 :: a9 :: a10 :: a11 :: z :: r) (.ref x :: st) σ := Vj_astore (i := 12) h hp hn hk k
theorem Vs_iinc12 {sh : Shp} {kd : Nat} {M : MI} {Post : Option Value → Mem → Prop} {pc q : Nat} {r : List (Option Value)} {st : List Value} {σ : Mem} {a0 a1 a2 a3 a4 a5 a6 a7 a8 a9 a10 a11 z : Option Value} {n : Int} {x v : Int32} (h : decode M.2.1 pc = .ok (.iinc 12 n, 3)) (hp : pc + 3 = q) (hv : x + Int32.ofInt n = v) (hn : 12 < M.2.2.1) (hk : okP [a0, a1, a2, a3, a4, a5, a6, a7, a8, a9, a10, a11] 12 = true) (k : Vj sh kd M Post q (a0 :: a1 :: a2 :: a3 :: a4 :: a5 :: a6 :: a7 :: a8 :: a9 :: a10 :: a11 :: some (.int v) :: r) st σ) : Vj sh kd M Post pc (a0 :: a1 :: a2 :: a3 :: a4 :: a5 :: a6 :: a7 :: a8 :: a9 :: a10 :: a11 :: some (.int x) :: r) st σ := Vj_iinc (i := 12) h hp rfl hv hn hk k
end
section
/-! records of the methods, and which words of the tables say what of them (printed by wip/gen/gen03.py) -/
theorem inX0 : ∀ w ∈ u_ws RX0 TX0 7, w ∈ lw_big := sub_of [114, 116, 118, 120, 122, 124, 126] (by decide +kernel) (by decide +kernel)
theorem inX1 : ∀ w ∈ u_ws RX1 TX1 5, w ∈ lw_big := sub_of [173, 175, 177, 179, 181] (by decide +kernel) (by decide +kernel)
theorem inX2 : ∀ w ∈ u_ws RX2 TX2 5, w ∈ lw_big := sub_of [151, 153, 155, 157, 159] (by decide +kernel) (by decide +kernel)
theorem inX3 : ∀ w ∈ u_ws RX3 TX3 1, w ∈ lw_big := sub_of [131] (by decide +kernel) (by decide +kernel)
theorem inX4 : ∀ w ∈ u_ws RX4 TX4 2, w ∈ lw_big := sub_of [192, 194] (by decide +kernel) (by decide +kernel)
theorem inX5 : ∀ w ∈ u_ws RX5 TX5 6, w ∈ lw_big := sub_of [253, 255, 257, 259, 261, 263] (by decide +kernel) (by decide +kernel)
theorem inX6 : ∀ w ∈ u_ws RX6 TX6 3, w ∈ lw_big := sub_of [231, 233, 235] (by decide +kernel) (by decide +kernel)
theorem inX7 : ∀ w ∈ u_ws RX7 TX7 3, w ∈ lw_big := sub_of [209, 211, 213] (by decide +kernel) (by decide +kernel)
theorem inX8 : ∀ w ∈ u_ws RX8 TX8 2, w ∈ lw_big := sub_of [76, 78] (by decide +kernel) (by decide +kernel)
theorem inX9 : ∀ w ∈ u_ws RX9 TX9 13, w ∈ lw_big := sub_of [356, 358, 360, 362, 364, 366, 368, 370, 372, 374, 376, 378, 380] (by decide +kernel) (by decide +kernel)
theorem inX10 : ∀ w ∈ u_ws RX10 TX10 34, w ∈ lw_big := sub_of [799, 801, 803, 805, 807, 809, 811, 813, 815, 817, 819, 821, 823, 825, 827, 829, 831, 833, 835, 837, 839, 841, 843, 845, 847, 849, 851, 853, 855, 857, 859, 861, 863, 865] (by decide +kernel) (by decide +kernel)
abbrev mJ7_fill_53178 : MI := (yJ7_fill_53178, cJ7_fill_53178, 4, none)
theorem okJ7_fill_53178 : MOk mJ7_fill_53178 2 := ⟨big_of 227 (by decide +kernel) rfl, big_of 56 (by decide +kernel) rfl, ⟨by decide +kernel, by decide +kernel, by decide +kernel⟩, by decide⟩
theorem stJ7_fill_53178 : Cond.static mJ7_fill_53178.1 ∈ lw_big := big_of 226 (by decide +kernel) rfl
abbrev mX2_make : MI := (yX2_make, cX2_make, 3, none)
theorem okX2_make : MOk mX2_make 1 := ⟨big_of 271 (by decide +kernel) rfl, big_of 50 (by decide +kernel) rfl, ⟨by decide +kernel, by decide +kernel, by decide +kernel⟩, by decide⟩
theorem viX2_make : MVi mX2_make := ⟨big_of 269 (by decide +kernel) rfl, big_of 270 (by decide +kernel) rfl⟩
abbrev mX0_copy : MI := (yX0_copy, cX0_copy, 3, none)
theorem okX0_copy : MOk mX0_copy 1 := ⟨big_of 275 (by decide +kernel) rfl, big_of 49 (by decide +kernel) rfl, ⟨by decide +kernel, by decide +kernel, by decide +kernel⟩, by decide⟩
theorem viX0_copy : MVi mX0_copy := ⟨big_of 273 (by decide +kernel) rfl, big_of 274 (by decide +kernel) rfl⟩
abbrev mX9_at : MI := (yX9_at, cX9_at, 2, (some .int))
theorem okX9_at : MOk mX9_at 2 := ⟨big_of 278 (by decide +kernel) rfl, big_of 46 (by decide +kernel) rfl, ⟨by decide +kernel, by decide +kernel, by decide +kernel⟩, by decide⟩
theorem stX9_at : Cond.static mX9_at.1 ∈ lw_big := big_of 277 (by decide +kernel) rfl
abbrev mX0_addThing : MI := (yX0_addThing, cX0_addThing, 3, none)
theorem okX0_addThing : MOk mX0_addThing 2 := ⟨big_of 282 (by decide +kernel) rfl, big_of 49 (by decide +kernel) rfl, ⟨by decide +kernel, by decide +kernel, by decide +kernel⟩, by decide⟩
theorem viX0_addThing : MVi mX0_addThing := ⟨big_of 280 (by decide +kernel) rfl, big_of 281 (by decide +kernel) rfl⟩
abbrev mX9_put : MI := (yX9_put, cX9_put, 3, none)
theorem okX9_put : MOk mX9_put 3 := ⟨big_of 285 (by decide +kernel) rfl, big_of 46 (by decide +kernel) rfl, ⟨by decide +kernel, by decide +kernel, by decide +kernel⟩, by decide⟩
theorem stX9_put : Cond.static mX9_put.1 ∈ lw_big := big_of 284 (by decide +kernel) rfl
abbrev mX0_addButton : MI := (yX0_addButton, cX0_addButton, 4, none)
theorem okX0_addButton : MOk mX0_addButton 3 := ⟨big_of 289 (by decide +kernel) rfl, big_of 49 (by decide +kernel) rfl, ⟨by decide +kernel, by decide +kernel, by decide +kernel⟩, by decide⟩
theorem viX0_addButton : MVi mX0_addButton := ⟨big_of 287 (by decide +kernel) rfl, big_of 288 (by decide +kernel) rfl⟩
abbrev mX2_tellCode : MI := (yX2_tellCode, cX2_tellCode, 7, none)
theorem okX2_tellCode : MOk mX2_tellCode 1 := ⟨big_of 293 (by decide +kernel) rfl, big_of 50 (by decide +kernel) rfl, ⟨by decide +kernel, by decide +kernel, by decide +kernel⟩, by decide⟩
theorem viX2_tellCode : MVi mX2_tellCode := ⟨big_of 292 (by decide +kernel) rfl, big_of 0 (by decide +kernel) rfl⟩
abbrev mX2_stateIn : MI := (yX2_stateIn, cX2_stateIn, 3, (some .int))
theorem okX2_stateIn : MOk mX2_stateIn 2 := ⟨big_of 297 (by decide +kernel) rfl, big_of 50 (by decide +kernel) rfl, ⟨by decide +kernel, by decide +kernel, by decide +kernel⟩, by decide⟩
theorem viX2_stateIn : MVi mX2_stateIn := ⟨big_of 295 (by decide +kernel) rfl, big_of 296 (by decide +kernel) rfl⟩
abbrev mX2_shiftOf : MI := (yX2_shiftOf, cX2_shiftOf, 2, (some .int))
theorem okX2_shiftOf : MOk mX2_shiftOf 1 := ⟨big_of 301 (by decide +kernel) rfl, big_of 50 (by decide +kernel) rfl, ⟨by decide +kernel, by decide +kernel, by decide +kernel⟩, by decide⟩
theorem viX2_shiftOf : MVi mX2_shiftOf := ⟨big_of 300 (by decide +kernel) rfl, big_of 1 (by decide +kernel) rfl⟩
abbrev mX2_statesOf : MI := (yX2_statesOf, cX2_statesOf, 2, (some .int))
theorem okX2_statesOf : MOk mX2_statesOf 1 := ⟨big_of 305 (by decide +kernel) rfl, big_of 50 (by decide +kernel) rfl, ⟨by decide +kernel, by decide +kernel, by decide +kernel⟩, by decide⟩
theorem viX2_statesOf : MVi mX2_statesOf := ⟨big_of 303 (by decide +kernel) rfl, big_of 304 (by decide +kernel) rfl⟩
abbrev mX2_done : MI := (yX2_done, cX2_done, 5, (some .int))
theorem okX2_done : MOk mX2_done 2 := ⟨big_of 311 (by decide +kernel) rfl, big_of 50 (by decide +kernel) rfl, ⟨by decide +kernel, by decide +kernel, by decide +kernel⟩, by decide⟩
theorem viX2_done : MVi mX2_done := ⟨big_of 310 (by decide +kernel) rfl, big_of 2 (by decide +kernel) rfl⟩
abbrev mX2_with : MI := (yX2_with, cX2_with, 5, (some .int))
theorem okX2_with : MOk mX2_with 3 := ⟨big_of 315 (by decide +kernel) rfl, big_of 50 (by decide +kernel) rfl, ⟨by decide +kernel, by decide +kernel, by decide +kernel⟩, by decide⟩
theorem viX2_with : MVi mX2_with := ⟨big_of 314 (by decide +kernel) rfl, big_of 3 (by decide +kernel) rfl⟩
abbrev mX2_switched : MI := (yX2_switched, cX2_switched, 5, (some .int))
theorem okX2_switched : MOk mX2_switched 2 := ⟨big_of 319 (by decide +kernel) rfl, big_of 50 (by decide +kernel) rfl, ⟨by decide +kernel, by decide +kernel, by decide +kernel⟩, by decide⟩
theorem viX2_switched : MVi mX2_switched := ⟨big_of 318 (by decide +kernel) rfl, big_of 4 (by decide +kernel) rfl⟩
abbrev mX2_stepped : MI := (yX2_stepped, cX2_stepped, 4, (some .int))
theorem okX2_stepped : MOk mX2_stepped 2 := ⟨big_of 323 (by decide +kernel) rfl, big_of 50 (by decide +kernel) rfl, ⟨by decide +kernel, by decide +kernel, by decide +kernel⟩, by decide⟩
theorem viX2_stepped : MVi mX2_stepped := ⟨big_of 321 (by decide +kernel) rfl, big_of 322 (by decide +kernel) rfl⟩
abbrev mX1_make : MI := (yX1_make, cX1_make, 5, none)
theorem okX1_make : MOk mX1_make 1 := ⟨big_of 327 (by decide +kernel) rfl, big_of 51 (by decide +kernel) rfl, ⟨by decide +kernel, by decide +kernel, by decide +kernel⟩, by decide⟩
theorem viX1_make : MVi mX1_make := ⟨big_of 325 (by decide +kernel) rfl, big_of 326 (by decide +kernel) rfl⟩
abbrev mX2_buttons : MI := (yX2_buttons, cX2_buttons, 1, (some .int))
theorem okX2_buttons : MOk mX2_buttons 0 := ⟨big_of 332 (by decide +kernel) rfl, big_of 50 (by decide +kernel) rfl, ⟨by decide +kernel, by decide +kernel, by decide +kernel⟩, by decide⟩
theorem viX2_buttons : MVi mX2_buttons := ⟨big_of 330 (by decide +kernel) rfl, big_of 331 (by decide +kernel) rfl⟩
abbrev mX2_behind : MI := (yX2_behind, cX2_behind, 3, (some .int))
theorem okX2_behind : MOk mX2_behind 2 := ⟨big_of 336 (by decide +kernel) rfl, big_of 50 (by decide +kernel) rfl, ⟨by decide +kernel, by decide +kernel, by decide +kernel⟩, by decide⟩
theorem viX2_behind : MVi mX2_behind := ⟨big_of 334 (by decide +kernel) rfl, big_of 335 (by decide +kernel) rfl⟩
abbrev mX1_fillFromTheEnds : MI := (yX1_fillFromTheEnds, cX1_fillFromTheEnds, 6, none)
theorem okX1_fillFromTheEnds : MOk mX1_fillFromTheEnds 1 := ⟨big_of 342 (by decide +kernel) rfl, big_of 51 (by decide +kernel) rfl, ⟨by decide +kernel, by decide +kernel, by decide +kernel⟩, by decide⟩
theorem viX1_fillFromTheEnds : MVi mX1_fillFromTheEnds := ⟨big_of 341 (by decide +kernel) rfl, big_of 5 (by decide +kernel) rfl⟩
abbrev mX9_write : MI := (yX9_write, cX9_write, 2, (some .int))
theorem okX9_write : MOk mX9_write 1 := ⟨big_of 386 (by decide +kernel) rfl, big_of 46 (by decide +kernel) rfl, ⟨by decide +kernel, by decide +kernel, by decide +kernel⟩, by decide⟩
theorem viX9_write : MVi mX9_write := ⟨big_of 384 (by decide +kernel) rfl, big_of 385 (by decide +kernel) rfl⟩
abbrev mX8_isFull : MI := (yX8_isFull, cX8_isFull, 1, (some .boolean))
theorem okX8_isFull : MOk mX8_isFull 0 := ⟨big_of 390 (by decide +kernel) rfl, big_of 47 (by decide +kernel) rfl, ⟨by decide +kernel, by decide +kernel, by decide +kernel⟩, by decide⟩
theorem viX8_isFull : MVi mX8_isFull := ⟨big_of 388 (by decide +kernel) rfl, big_of 389 (by decide +kernel) rfl⟩
abbrev mX8_append : MI := (yX8_append, cX8_append, 2, none)
theorem okX8_append : MOk mX8_append 1 := ⟨big_of 394 (by decide +kernel) rfl, big_of 47 (by decide +kernel) rfl, ⟨by decide +kernel, by decide +kernel, by decide +kernel⟩, by decide⟩
theorem viX8_append : MVi mX8_append := ⟨big_of 392 (by decide +kernel) rfl, big_of 393 (by decide +kernel) rfl⟩
abbrev mX8_size : MI := (yX8_size, cX8_size, 1, (some .int))
theorem okX8_size : MOk mX8_size 0 := ⟨big_of 399 (by decide +kernel) rfl, big_of 47 (by decide +kernel) rfl, ⟨by decide +kernel, by decide +kernel, by decide +kernel⟩, by decide⟩
theorem viX8_size : MVi mX8_size := ⟨big_of 397 (by decide +kernel) rfl, big_of 398 (by decide +kernel) rfl⟩
abbrev mX9_wipe : MI := (yX9_wipe, cX9_wipe, 2, (some .int))
theorem okX9_wipe : MOk mX9_wipe 0 := ⟨big_of 403 (by decide +kernel) rfl, big_of 46 (by decide +kernel) rfl, ⟨by decide +kernel, by decide +kernel, by decide +kernel⟩, by decide⟩
theorem viX9_wipe : MVi mX9_wipe := ⟨big_of 401 (by decide +kernel) rfl, big_of 402 (by decide +kernel) rfl⟩
abbrev mX8_empty : MI := (yX8_empty, cX8_empty, 1, none)
theorem okX8_empty : MOk mX8_empty 0 := ⟨big_of 407 (by decide +kernel) rfl, big_of 47 (by decide +kernel) rfl, ⟨by decide +kernel, by decide +kernel, by decide +kernel⟩, by decide⟩
theorem viX8_empty : MVi mX8_empty := ⟨big_of 405 (by decide +kernel) rfl, big_of 406 (by decide +kernel) rfl⟩
abbrev mX9_fault : MI := (yX9_fault, cX9_fault, 1, (some .int))
theorem okX9_fault : MOk mX9_fault 0 := ⟨big_of 411 (by decide +kernel) rfl, big_of 46 (by decide +kernel) rfl, ⟨by decide +kernel, by decide +kernel, by decide +kernel⟩, by decide⟩
theorem viX9_fault : MVi mX9_fault := ⟨big_of 409 (by decide +kernel) rfl, big_of 410 (by decide +kernel) rfl⟩
abbrev mX3_firstFault : MI := (yX3_firstFault, cX3_firstFault, 6, (some .int))
theorem okX3_firstFault : MOk mX3_firstFault 1 := ⟨big_of 415 (by decide +kernel) rfl, big_of 48 (by decide +kernel) rfl, ⟨by decide +kernel, by decide +kernel, by decide +kernel⟩, by decide⟩
theorem viX3_firstFault : MVi mX3_firstFault := ⟨big_of 413 (by decide +kernel) rfl, big_of 414 (by decide +kernel) rfl⟩
abbrev mX8_letterAt : MI := (yX8_letterAt, cX8_letterAt, 2, (some .int))
theorem okX8_letterAt : MOk mX8_letterAt 1 := ⟨big_of 419 (by decide +kernel) rfl, big_of 47 (by decide +kernel) rfl, ⟨by decide +kernel, by decide +kernel, by decide +kernel⟩, by decide⟩
theorem viX8_letterAt : MVi mX8_letterAt := ⟨big_of 417 (by decide +kernel) rfl, big_of 418 (by decide +kernel) rfl⟩
abbrev mX3_readThing : MI := (yX3_readThing, cX3_readThing, 5, (some .int))
theorem okX3_readThing : MOk mX3_readThing 2 := ⟨big_of 425 (by decide +kernel) rfl, big_of 48 (by decide +kernel) rfl, ⟨by decide +kernel, by decide +kernel, by decide +kernel⟩, by decide⟩
theorem viX3_readThing : MVi mX3_readThing := ⟨big_of 424 (by decide +kernel) rfl, big_of 6 (by decide +kernel) rfl⟩
abbrev mX8_figureAt : MI := (yX8_figureAt, cX8_figureAt, 3, (some .int))
theorem okX8_figureAt : MOk mX8_figureAt 1 := ⟨big_of 429 (by decide +kernel) rfl, big_of 47 (by decide +kernel) rfl, ⟨by decide +kernel, by decide +kernel, by decide +kernel⟩, by decide⟩
theorem viX8_figureAt : MVi mX8_figureAt := ⟨big_of 427 (by decide +kernel) rfl, big_of 428 (by decide +kernel) rfl⟩
abbrev mX3_readButton : MI := (yX3_readButton, cX3_readButton, 6, (some .int))
theorem okX3_readButton : MOk mX3_readButton 2 := ⟨big_of 435 (by decide +kernel) rfl, big_of 48 (by decide +kernel) rfl, ⟨by decide +kernel, by decide +kernel, by decide +kernel⟩, by decide⟩
theorem viX3_readButton : MVi mX3_readButton := ⟨big_of 434 (by decide +kernel) rfl, big_of 7 (by decide +kernel) rfl⟩
abbrev mX3_mayBeExtra : MI := (yX3_mayBeExtra, cX3_mayBeExtra, 4, (some .boolean))
theorem okX3_mayBeExtra : MOk mX3_mayBeExtra 3 := ⟨big_of 439 (by decide +kernel) rfl, big_of 48 (by decide +kernel) rfl, ⟨by decide +kernel, by decide +kernel, by decide +kernel⟩, by decide⟩
theorem viX3_mayBeExtra : MVi mX3_mayBeExtra := ⟨big_of 438 (by decide +kernel) rfl, big_of 8 (by decide +kernel) rfl⟩
abbrev mX9_room : MI := (yX9_room, cX9_room, 1, (some .int))
theorem okX9_room : MOk mX9_room 0 := ⟨big_of 445 (by decide +kernel) rfl, big_of 46 (by decide +kernel) rfl, ⟨by decide +kernel, by decide +kernel, by decide +kernel⟩, by decide⟩
theorem viX9_room : MVi mX9_room := ⟨big_of 443 (by decide +kernel) rfl, big_of 444 (by decide +kernel) rfl⟩
abbrev mX2_firstCode : MI := (yX2_firstCode, cX2_firstCode, 3, (some .int))
theorem okX2_firstCode : MOk mX2_firstCode 0 := ⟨big_of 449 (by decide +kernel) rfl, big_of 50 (by decide +kernel) rfl, ⟨by decide +kernel, by decide +kernel, by decide +kernel⟩, by decide⟩
theorem viX2_firstCode : MVi mX2_firstCode := ⟨big_of 447 (by decide +kernel) rfl, big_of 448 (by decide +kernel) rfl⟩
abbrev mX6_empty : MI := (yX6_empty, cX6_empty, 1, none)
theorem okX6_empty : MOk mX6_empty 0 := ⟨big_of 453 (by decide +kernel) rfl, big_of 54 (by decide +kernel) rfl, ⟨by decide +kernel, by decide +kernel, by decide +kernel⟩, by decide⟩
theorem viX6_empty : MVi mX6_empty := ⟨big_of 451 (by decide +kernel) rfl, big_of 452 (by decide +kernel) rfl⟩
abbrev mX2_things : MI := (yX2_things, cX2_things, 1, (some .int))
theorem okX2_things : MOk mX2_things 0 := ⟨big_of 457 (by decide +kernel) rfl, big_of 50 (by decide +kernel) rfl, ⟨by decide +kernel, by decide +kernel, by decide +kernel⟩, by decide⟩
theorem viX2_things : MVi mX2_things := ⟨big_of 455 (by decide +kernel) rfl, big_of 456 (by decide +kernel) rfl⟩
abbrev mX9_thing : MI := (yX9_thing, cX9_thing, 3, (some .int))
theorem okX9_thing : MOk mX9_thing 2 := ⟨big_of 462 (by decide +kernel) rfl, big_of 46 (by decide +kernel) rfl, ⟨by decide +kernel, by decide +kernel, by decide +kernel⟩, by decide⟩
theorem viX9_thing : MVi mX9_thing := ⟨big_of 460 (by decide +kernel) rfl, big_of 461 (by decide +kernel) rfl⟩
abbrev mX2_hasThing : MI := (yX2_hasThing, cX2_hasThing, 2, (some .boolean))
theorem okX2_hasThing : MOk mX2_hasThing 1 := ⟨big_of 466 (by decide +kernel) rfl, big_of 50 (by decide +kernel) rfl, ⟨by decide +kernel, by decide +kernel, by decide +kernel⟩, by decide⟩
theorem viX2_hasThing : MVi mX2_hasThing := ⟨big_of 464 (by decide +kernel) rfl, big_of 465 (by decide +kernel) rfl⟩
abbrev mX9_button : MI := (yX9_button, cX9_button, 3, (some .int))
theorem okX9_button : MOk mX9_button 2 := ⟨big_of 472 (by decide +kernel) rfl, big_of 46 (by decide +kernel) rfl, ⟨by decide +kernel, by decide +kernel, by decide +kernel⟩, by decide⟩
theorem viX9_button : MVi mX9_button := ⟨big_of 470 (by decide +kernel) rfl, big_of 471 (by decide +kernel) rfl⟩
abbrev mX2_hasButton : MI := (yX2_hasButton, cX2_hasButton, 2, (some .boolean))
theorem okX2_hasButton : MOk mX2_hasButton 1 := ⟨big_of 476 (by decide +kernel) rfl, big_of 50 (by decide +kernel) rfl, ⟨by decide +kernel, by decide +kernel, by decide +kernel⟩, by decide⟩
theorem viX2_hasButton : MVi mX2_hasButton := ⟨big_of 474 (by decide +kernel) rfl, big_of 475 (by decide +kernel) rfl⟩
abbrev mX9_press : MI := (yX9_press, cX9_press, 2, (some .int))
theorem okX9_press : MOk mX9_press 1 := ⟨big_of 481 (by decide +kernel) rfl, big_of 46 (by decide +kernel) rfl, ⟨by decide +kernel, by decide +kernel, by decide +kernel⟩, by decide⟩
theorem viX9_press : MVi mX9_press := ⟨big_of 479 (by decide +kernel) rfl, big_of 480 (by decide +kernel) rfl⟩
abbrev mX9_rememberAct : MI := (yX9_rememberAct, cX9_rememberAct, 1, none)
theorem okX9_rememberAct : MOk mX9_rememberAct 0 := ⟨big_of 485 (by decide +kernel) rfl, big_of 46 (by decide +kernel) rfl, ⟨by decide +kernel, by decide +kernel, by decide +kernel⟩, by decide⟩
theorem viX9_rememberAct : MVi mX9_rememberAct := ⟨big_of 484 (by decide +kernel) rfl, big_of 9 (by decide +kernel) rfl⟩
abbrev mX6_forgetFirst : MI := (yX6_forgetFirst, cX6_forgetFirst, 2, none)
theorem okX6_forgetFirst : MOk mX6_forgetFirst 0 := ⟨big_of 489 (by decide +kernel) rfl, big_of 54 (by decide +kernel) rfl, ⟨by decide +kernel, by decide +kernel, by decide +kernel⟩, by decide⟩
theorem viX6_forgetFirst : MVi mX6_forgetFirst := ⟨big_of 487 (by decide +kernel) rfl, big_of 488 (by decide +kernel) rfl⟩
abbrev mX6_store : MI := (yX6_store, cX6_store, 3, none)
theorem okX6_store : MOk mX6_store 2 := ⟨big_of 495 (by decide +kernel) rfl, big_of 54 (by decide +kernel) rfl, ⟨by decide +kernel, by decide +kernel, by decide +kernel⟩, by decide⟩
theorem viX6_store : MVi mX6_store := ⟨big_of 493 (by decide +kernel) rfl, big_of 494 (by decide +kernel) rfl⟩
abbrev mX2_messOf : MI := (yX2_messOf, cX2_messOf, 2, (some .int))
theorem okX2_messOf : MOk mX2_messOf 1 := ⟨big_of 500 (by decide +kernel) rfl, big_of 50 (by decide +kernel) rfl, ⟨by decide +kernel, by decide +kernel, by decide +kernel⟩, by decide⟩
theorem viX2_messOf : MVi mX2_messOf := ⟨big_of 498 (by decide +kernel) rfl, big_of 499 (by decide +kernel) rfl⟩
abbrev mX9_miss : MI := (yX9_miss, cX9_miss, 2, (some .int))
theorem okX9_miss : MOk mX9_miss 1 := ⟨big_of 504 (by decide +kernel) rfl, big_of 46 (by decide +kernel) rfl, ⟨by decide +kernel, by decide +kernel, by decide +kernel⟩, by decide⟩
theorem viX9_miss : MVi mX9_miss := ⟨big_of 502 (by decide +kernel) rfl, big_of 503 (by decide +kernel) rfl⟩
abbrev mX9_step : MI := (yX9_step, cX9_step, 2, (some .int))
theorem okX9_step : MOk mX9_step 1 := ⟨big_of 508 (by decide +kernel) rfl, big_of 46 (by decide +kernel) rfl, ⟨by decide +kernel, by decide +kernel, by decide +kernel⟩, by decide⟩
theorem viX9_step : MVi mX9_step := ⟨big_of 506 (by decide +kernel) rfl, big_of 507 (by decide +kernel) rfl⟩
abbrev mX9_find : MI := (yX9_find, cX9_find, 3, (some .int))
theorem okX9_find : MOk mX9_find 0 := ⟨big_of 513 (by decide +kernel) rfl, big_of 46 (by decide +kernel) rfl, ⟨by decide +kernel, by decide +kernel, by decide +kernel⟩, by decide⟩
theorem viX9_find : MVi mX9_find := ⟨big_of 511 (by decide +kernel) rfl, big_of 512 (by decide +kernel) rfl⟩
abbrev mX9_undo : MI := (yX9_undo, cX9_undo, 1, (some .int))
theorem okX9_undo : MOk mX9_undo 0 := ⟨big_of 517 (by decide +kernel) rfl, big_of 46 (by decide +kernel) rfl, ⟨by decide +kernel, by decide +kernel, by decide +kernel⟩, by decide⟩
theorem viX9_undo : MVi mX9_undo := ⟨big_of 515 (by decide +kernel) rfl, big_of 516 (by decide +kernel) rfl⟩
abbrev mX6_fetch : MI := (yX6_fetch, cX6_fetch, 3, none)
theorem okX6_fetch : MOk mX6_fetch 2 := ⟨big_of 521 (by decide +kernel) rfl, big_of 54 (by decide +kernel) rfl, ⟨by decide +kernel, by decide +kernel, by decide +kernel⟩, by decide⟩
theorem viX6_fetch : MVi mX6_fetch := ⟨big_of 519 (by decide +kernel) rfl, big_of 520 (by decide +kernel) rfl⟩
abbrev mX9_after : MI := (yX9_after, cX9_after, 3, (some .int))
theorem okX9_after : MOk mX9_after 2 := ⟨big_of 525 (by decide +kernel) rfl, big_of 46 (by decide +kernel) rfl, ⟨by decide +kernel, by decide +kernel, by decide +kernel⟩, by decide⟩
theorem viX9_after : MVi mX9_after := ⟨big_of 523 (by decide +kernel) rfl, big_of 524 (by decide +kernel) rfl⟩
abbrev mX9_isRow : MI := (yX9_isRow, cX9_isRow, 2, (some .boolean))
theorem okX9_isRow : MOk mX9_isRow 2 := ⟨big_of 528 (by decide +kernel) rfl, big_of 46 (by decide +kernel) rfl, ⟨by decide +kernel, by decide +kernel, by decide +kernel⟩, by decide⟩
theorem stX9_isRow : Cond.static mX9_isRow.1 ∈ lw_big := big_of 527 (by decide +kernel) rfl
abbrev mX4_read : MI := (yX4_read, cX4_read, 5, none)
theorem okX4_read : MOk mX4_read 2 := ⟨big_of 534 (by decide +kernel) rfl, big_of 52 (by decide +kernel) rfl, ⟨by decide +kernel, by decide +kernel, by decide +kernel⟩, by decide⟩
theorem viX4_read : MVi mX4_read := ⟨big_of 532 (by decide +kernel) rfl, big_of 533 (by decide +kernel) rfl⟩
abbrev mX4_isKnownTo : MI := (yX4_isKnownTo, cX4_isKnownTo, 3, (some .boolean))
theorem okX4_isKnownTo : MOk mX4_isKnownTo 1 := ⟨big_of 539 (by decide +kernel) rfl, big_of 52 (by decide +kernel) rfl, ⟨by decide +kernel, by decide +kernel, by decide +kernel⟩, by decide⟩
theorem viX4_isKnownTo : MVi mX4_isKnownTo := ⟨big_of 537 (by decide +kernel) rfl, big_of 538 (by decide +kernel) rfl⟩
abbrev mX4_buttonAt : MI := (yX4_buttonAt, cX4_buttonAt, 2, (some .int))
theorem okX4_buttonAt : MOk mX4_buttonAt 1 := ⟨big_of 543 (by decide +kernel) rfl, big_of 52 (by decide +kernel) rfl, ⟨by decide +kernel, by decide +kernel, by decide +kernel⟩, by decide⟩
theorem viX4_buttonAt : MVi mX4_buttonAt := ⟨big_of 541 (by decide +kernel) rfl, big_of 542 (by decide +kernel) rfl⟩
abbrev mX4_behind : MI := (yX4_behind, cX4_behind, 5, (some .int))
theorem okX4_behind : MOk mX4_behind 2 := ⟨big_of 549 (by decide +kernel) rfl, big_of 52 (by decide +kernel) rfl, ⟨by decide +kernel, by decide +kernel, by decide +kernel⟩, by decide⟩
theorem viX4_behind : MVi mX4_behind := ⟨big_of 547 (by decide +kernel) rfl, big_of 548 (by decide +kernel) rfl⟩
abbrev mX9_all : MI := (yX9_all, cX9_all, 3, (some .int))
theorem okX9_all : MOk mX9_all 0 := ⟨big_of 554 (by decide +kernel) rfl, big_of 46 (by decide +kernel) rfl, ⟨by decide +kernel, by decide +kernel, by decide +kernel⟩, by decide⟩
theorem viX9_all : MVi mX9_all := ⟨big_of 552 (by decide +kernel) rfl, big_of 553 (by decide +kernel) rfl⟩
abbrev mX9_fewest : MI := (yX9_fewest, cX9_fewest, 5, (some .int))
theorem okX9_fewest : MOk mX9_fewest 2 := ⟨big_of 558 (by decide +kernel) rfl, big_of 46 (by decide +kernel) rfl, ⟨by decide +kernel, by decide +kernel, by decide +kernel⟩, by decide⟩
theorem viX9_fewest : MVi mX9_fewest := ⟨big_of 556 (by decide +kernel) rfl, big_of 557 (by decide +kernel) rfl⟩
abbrev mX2_codeOf : MI := (yX2_codeOf, cX2_codeOf, 6, (some .int))
theorem okX2_codeOf : MOk mX2_codeOf 1 := ⟨big_of 562 (by decide +kernel) rfl, big_of 50 (by decide +kernel) rfl, ⟨by decide +kernel, by decide +kernel, by decide +kernel⟩, by decide⟩
theorem viX2_codeOf : MVi mX2_codeOf := ⟨big_of 560 (by decide +kernel) rfl, big_of 561 (by decide +kernel) rfl⟩
abbrev mX2_everyButton : MI := (yX2_everyButton, cX2_everyButton, 1, (some .int))
theorem okX2_everyButton : MOk mX2_everyButton 0 := ⟨big_of 566 (by decide +kernel) rfl, big_of 50 (by decide +kernel) rfl, ⟨by decide +kernel, by decide +kernel, by decide +kernel⟩, by decide⟩
theorem viX2_everyButton : MVi mX2_everyButton := ⟨big_of 564 (by decide +kernel) rfl, big_of 565 (by decide +kernel) rfl⟩
abbrev mX1_spread : MI := (yX1_spread, cX1_spread, 4, (some .int))
theorem okX1_spread : MOk mX1_spread 2 := ⟨big_of 570 (by decide +kernel) rfl, big_of 51 (by decide +kernel) rfl, ⟨by decide +kernel, by decide +kernel, by decide +kernel⟩, by decide⟩
theorem viX1_spread : MVi mX1_spread := ⟨big_of 568 (by decide +kernel) rfl, big_of 569 (by decide +kernel) rfl⟩
abbrev mX1_reachFrom : MI := (yX1_reachFrom, cX1_reachFrom, 8, none)
theorem okX1_reachFrom : MOk mX1_reachFrom 2 := ⟨big_of 574 (by decide +kernel) rfl, big_of 51 (by decide +kernel) rfl, ⟨by decide +kernel, by decide +kernel, by decide +kernel⟩, by decide⟩
theorem viX1_reachFrom : MVi mX1_reachFrom := ⟨big_of 573 (by decide +kernel) rfl, big_of 10 (by decide +kernel) rfl⟩
abbrev mX1_distanceOf : MI := (yX1_distanceOf, cX1_distanceOf, 2, (some .int))
theorem okX1_distanceOf : MOk mX1_distanceOf 1 := ⟨big_of 578 (by decide +kernel) rfl, big_of 51 (by decide +kernel) rfl, ⟨by decide +kernel, by decide +kernel, by decide +kernel⟩, by decide⟩
theorem viX1_distanceOf : MVi mX1_distanceOf := ⟨big_of 576 (by decide +kernel) rfl, big_of 577 (by decide +kernel) rfl⟩
abbrev mX9_firstShortest : MI := (yX9_firstShortest, cX9_firstShortest, 6, (some .int))
theorem okX9_firstShortest : MOk mX9_firstShortest 1 := ⟨big_of 582 (by decide +kernel) rfl, big_of 46 (by decide +kernel) rfl, ⟨by decide +kernel, by decide +kernel, by decide +kernel⟩, by decide⟩
theorem viX9_firstShortest : MVi mX9_firstShortest := ⟨big_of 581 (by decide +kernel) rfl, big_of 11 (by decide +kernel) rfl⟩
abbrev mX9_firstNearer : MI := (yX9_firstNearer, cX9_firstNearer, 4, (some .int))
theorem okX9_firstNearer : MOk mX9_firstNearer 2 := ⟨big_of 586 (by decide +kernel) rfl, big_of 46 (by decide +kernel) rfl, ⟨by decide +kernel, by decide +kernel, by decide +kernel⟩, by decide⟩
theorem viX9_firstNearer : MVi mX9_firstNearer := ⟨big_of 585 (by decide +kernel) rfl, big_of 12 (by decide +kernel) rfl⟩
abbrev mX9_worst : MI := (yX9_worst, cX9_worst, 5, (some .int))
theorem okX9_worst : MOk mX9_worst 2 := ⟨big_of 590 (by decide +kernel) rfl, big_of 46 (by decide +kernel) rfl, ⟨by decide +kernel, by decide +kernel, by decide +kernel⟩, by decide⟩
theorem viX9_worst : MVi mX9_worst := ⟨big_of 588 (by decide +kernel) rfl, big_of 589 (by decide +kernel) rfl⟩
abbrev mX1_greatestDistance : MI := (yX1_greatestDistance, cX1_greatestDistance, 1, (some .int))
theorem okX1_greatestDistance : MOk mX1_greatestDistance 0 := ⟨big_of 594 (by decide +kernel) rfl, big_of 51 (by decide +kernel) rfl, ⟨by decide +kernel, by decide +kernel, by decide +kernel⟩, by decide⟩
theorem viX1_greatestDistance : MVi mX1_greatestDistance := ⟨big_of 592 (by decide +kernel) rfl, big_of 593 (by decide +kernel) rfl⟩
abbrev mX9_sure : MI := (yX9_sure, cX9_sure, 5, (some .int))
theorem okX9_sure : MOk mX9_sure 2 := ⟨big_of 598 (by decide +kernel) rfl, big_of 46 (by decide +kernel) rfl, ⟨by decide +kernel, by decide +kernel, by decide +kernel⟩, by decide⟩
theorem viX9_sure : MVi mX9_sure := ⟨big_of 596 (by decide +kernel) rfl, big_of 597 (by decide +kernel) rfl⟩
abbrev mX9_figuresOf : MI := (yX9_figuresOf, cX9_figuresOf, 2, (some .int))
theorem okX9_figuresOf : MOk mX9_figuresOf 1 := ⟨big_of 601 (by decide +kernel) rfl, big_of 46 (by decide +kernel) rfl, ⟨by decide +kernel, by decide +kernel, by decide +kernel⟩, by decide⟩
theorem stX9_figuresOf : Cond.static mX9_figuresOf.1 ∈ lw_big := big_of 600 (by decide +kernel) rfl
abbrev mX4_bringsAll : MI := (yX4_bringsAll, cX4_bringsAll, 4, (some .boolean))
theorem okX4_bringsAll : MOk mX4_bringsAll 2 := ⟨big_of 605 (by decide +kernel) rfl, big_of 52 (by decide +kernel) rfl, ⟨by decide +kernel, by decide +kernel, by decide +kernel⟩, by decide⟩
theorem viX4_bringsAll : MVi mX4_bringsAll := ⟨big_of 603 (by decide +kernel) rfl, big_of 604 (by decide +kernel) rfl⟩
abbrev mX2_isReal : MI := (yX2_isReal, cX2_isReal, 2, (some .boolean))
theorem okX2_isReal : MOk mX2_isReal 1 := ⟨big_of 609 (by decide +kernel) rfl, big_of 50 (by decide +kernel) rfl, ⟨by decide +kernel, by decide +kernel, by decide +kernel⟩, by decide⟩
theorem viX2_isReal : MVi mX2_isReal := ⟨big_of 607 (by decide +kernel) rfl, big_of 608 (by decide +kernel) rfl⟩
abbrev mX9_needed : MI := (yX9_needed, cX9_needed, 5, (some .int))
theorem okX9_needed : MOk mX9_needed 1 := ⟨big_of 615 (by decide +kernel) rfl, big_of 46 (by decide +kernel) rfl, ⟨by decide +kernel, by decide +kernel, by decide +kernel⟩, by decide⟩
theorem viX9_needed : MVi mX9_needed := ⟨big_of 613 (by decide +kernel) rfl, big_of 614 (by decide +kernel) rfl⟩
abbrev mJ6_bitCount_0f7a4 : MI := (yJ6_bitCount_0f7a4, cJ6_bitCount_0f7a4, 1, (some .int))
theorem okJ6_bitCount_0f7a4 : MOk mJ6_bitCount_0f7a4 1 := ⟨big_of 618 (by decide +kernel) rfl, big_of 59 (by decide +kernel) rfl, ⟨by decide +kernel, by decide +kernel, by decide +kernel⟩, by decide⟩
theorem stJ6_bitCount_0f7a4 : Cond.static mJ6_bitCount_0f7a4.1 ∈ lw_big := big_of 617 (by decide +kernel) rfl
abbrev mX9_reaches : MI := (yX9_reaches, cX9_reaches, 3, (some .boolean))
theorem okX9_reaches : MOk mX9_reaches 2 := ⟨big_of 625 (by decide +kernel) rfl, big_of 46 (by decide +kernel) rfl, ⟨by decide +kernel, by decide +kernel, by decide +kernel⟩, by decide⟩
theorem viX9_reaches : MVi mX9_reaches := ⟨big_of 624 (by decide +kernel) rfl, big_of 13 (by decide +kernel) rfl⟩
abbrev mX9_judge : MI := (yX9_judge, cX9_judge, 7, (some .int))
theorem okX9_judge : MOk mX9_judge 2 := ⟨big_of 629 (by decide +kernel) rfl, big_of 46 (by decide +kernel) rfl, ⟨by decide +kernel, by decide +kernel, by decide +kernel⟩, by decide⟩
theorem viX9_judge : MVi mX9_judge := ⟨big_of 627 (by decide +kernel) rfl, big_of 628 (by decide +kernel) rfl⟩
abbrev mX9_see : MI := (yX9_see, cX9_see, 4, (some .int))
theorem okX9_see : MOk mX9_see 3 := ⟨big_of 634 (by decide +kernel) rfl, big_of 46 (by decide +kernel) rfl, ⟨by decide +kernel, by decide +kernel, by decide +kernel⟩, by decide⟩
theorem viX9_see : MVi mX9_see := ⟨big_of 632 (by decide +kernel) rfl, big_of 633 (by decide +kernel) rfl⟩
abbrev mX5_add : MI := (yX5_add, cX5_add, 4, none)
theorem okX5_add : MOk mX5_add 3 := ⟨big_of 638 (by decide +kernel) rfl, big_of 57 (by decide +kernel) rfl, ⟨by decide +kernel, by decide +kernel, by decide +kernel⟩, by decide⟩
theorem viX5_add : MVi mX5_add := ⟨big_of 636 (by decide +kernel) rfl, big_of 637 (by decide +kernel) rfl⟩
abbrev mX9_unsee : MI := (yX9_unsee, cX9_unsee, 2, (some .int))
theorem okX9_unsee : MOk mX9_unsee 0 := ⟨big_of 643 (by decide +kernel) rfl, big_of 46 (by decide +kernel) rfl, ⟨by decide +kernel, by decide +kernel, by decide +kernel⟩, by decide⟩
theorem viX9_unsee : MVi mX9_unsee := ⟨big_of 641 (by decide +kernel) rfl, big_of 642 (by decide +kernel) rfl⟩
abbrev mX9_may : MI := (yX9_may, cX9_may, 2, (some .int))
theorem okX9_may : MOk mX9_may 1 := ⟨big_of 647 (by decide +kernel) rfl, big_of 46 (by decide +kernel) rfl, ⟨by decide +kernel, by decide +kernel, by decide +kernel⟩, by decide⟩
theorem viX9_may : MVi mX9_may := ⟨big_of 645 (by decide +kernel) rfl, big_of 646 (by decide +kernel) rfl⟩
abbrev mX5_narrow : MI := (yX5_narrow, cX5_narrow, 4, none)
theorem okX5_narrow : MOk mX5_narrow 2 := ⟨big_of 651 (by decide +kernel) rfl, big_of 57 (by decide +kernel) rfl, ⟨by decide +kernel, by decide +kernel, by decide +kernel⟩, by decide⟩
theorem viX5_narrow : MVi mX5_narrow := ⟨big_of 649 (by decide +kernel) rfl, big_of 650 (by decide +kernel) rfl⟩
abbrev mX5_narrowBy : MI := (yX5_narrowBy, cX5_narrowBy, 7, none)
theorem okX5_narrowBy : MOk mX5_narrowBy 3 := ⟨big_of 660 (by decide +kernel) rfl, big_of 57 (by decide +kernel) rfl, ⟨by decide +kernel, by decide +kernel, by decide +kernel⟩, by decide⟩
theorem viX5_narrowBy : MVi mX5_narrowBy := ⟨big_of 659 (by decide +kernel) rfl, big_of 14 (by decide +kernel) rfl⟩
abbrev mX2_lightsIn : MI := (yX2_lightsIn, cX2_lightsIn, 2, (some .int))
theorem okX2_lightsIn : MOk mX2_lightsIn 1 := ⟨big_of 665 (by decide +kernel) rfl, big_of 50 (by decide +kernel) rfl, ⟨by decide +kernel, by decide +kernel, by decide +kernel⟩, by decide⟩
theorem viX2_lightsIn : MVi mX2_lightsIn := ⟨big_of 663 (by decide +kernel) rfl, big_of 664 (by decide +kernel) rfl⟩
abbrev mX9_thingsInOneState : MI := (yX9_thingsInOneState, cX9_thingsInOneState, 5, (some .int))
theorem okX9_thingsInOneState : MOk mX9_thingsInOneState 0 := ⟨big_of 669 (by decide +kernel) rfl, big_of 46 (by decide +kernel) rfl, ⟨by decide +kernel, by decide +kernel, by decide +kernel⟩, by decide⟩
theorem viX9_thingsInOneState : MVi mX9_thingsInOneState := ⟨big_of 668 (by decide +kernel) rfl, big_of 15 (by decide +kernel) rfl⟩
abbrev mX9_tells : MI := (yX9_tells, cX9_tells, 6, (some .int))
theorem okX9_tells : MOk mX9_tells 1 := ⟨big_of 673 (by decide +kernel) rfl, big_of 46 (by decide +kernel) rfl, ⟨by decide +kernel, by decide +kernel, by decide +kernel⟩, by decide⟩
theorem viX9_tells : MVi mX9_tells := ⟨big_of 671 (by decide +kernel) rfl, big_of 672 (by decide +kernel) rfl⟩
abbrev mX9_mostAlikeBehind : MI := (yX9_mostAlikeBehind, cX9_mostAlikeBehind, 6, (some .int))
theorem okX9_mostAlikeBehind : MOk mX9_mostAlikeBehind 1 := ⟨big_of 677 (by decide +kernel) rfl, big_of 46 (by decide +kernel) rfl, ⟨by decide +kernel, by decide +kernel, by decide +kernel⟩, by decide⟩
theorem viX9_mostAlikeBehind : MVi mX9_mostAlikeBehind := ⟨big_of 676 (by decide +kernel) rfl, big_of 16 (by decide +kernel) rfl⟩
abbrev mX9_share : MI := (yX9_share, cX9_share, 9, (some .int))
theorem okX9_share : MOk mX9_share 3 := ⟨big_of 685 (by decide +kernel) rfl, big_of 46 (by decide +kernel) rfl, ⟨by decide +kernel, by decide +kernel, by decide +kernel⟩, by decide⟩
theorem viX9_share : MVi mX9_share := ⟨big_of 683 (by decide +kernel) rfl, big_of 684 (by decide +kernel) rfl⟩
abbrev mX9_ordersAround : MI := (yX9_ordersAround, cX9_ordersAround, 2, (some .int))
theorem okX9_ordersAround : MOk mX9_ordersAround 1 := ⟨big_of 689 (by decide +kernel) rfl, big_of 46 (by decide +kernel) rfl, ⟨by decide +kernel, by decide +kernel, by decide +kernel⟩, by decide⟩
theorem viX9_ordersAround : MVi mX9_ordersAround := ⟨big_of 688 (by decide +kernel) rfl, big_of 17 (by decide +kernel) rfl⟩
abbrev mX9_fraction : MI := (yX9_fraction, cX9_fraction, 4, (some .int))
theorem okX9_fraction : MOk mX9_fraction 3 := ⟨big_of 694 (by decide +kernel) rfl, big_of 46 (by decide +kernel) rfl, ⟨by decide +kernel, by decide +kernel, by decide +kernel⟩, by decide⟩
theorem stX9_fraction : Cond.static mX9_fraction.1 ∈ lw_big := big_of 693 (by decide +kernel) rfl
abbrev mX9_commonDivisor : MI := (yX9_commonDivisor, cX9_commonDivisor, 6, (some .int))
theorem okX9_commonDivisor : MOk mX9_commonDivisor 2 := ⟨big_of 697 (by decide +kernel) rfl, big_of 46 (by decide +kernel) rfl, ⟨by decide +kernel, by decide +kernel, by decide +kernel⟩, by decide⟩
theorem stX9_commonDivisor : Cond.static mX9_commonDivisor.1 ∈ lw_big := big_of 696 (by decide +kernel) rfl
abbrev mX9_rests : MI := (yX9_rests, cX9_rests, 10, (some .int))
theorem okX9_rests : MOk mX9_rests 5 := ⟨big_of 701 (by decide +kernel) rfl, big_of 46 (by decide +kernel) rfl, ⟨by decide +kernel, by decide +kernel, by decide +kernel⟩, by decide⟩
theorem viX9_rests : MVi mX9_rests := ⟨big_of 699 (by decide +kernel) rfl, big_of 700 (by decide +kernel) rfl⟩
abbrev mX9_firstRests : MI := (yX9_firstRests, cX9_firstRests, 7, (some .boolean))
theorem okX9_firstRests : MOk mX9_firstRests 4 := ⟨big_of 705 (by decide +kernel) rfl, big_of 46 (by decide +kernel) rfl, ⟨by decide +kernel, by decide +kernel, by decide +kernel⟩, by decide⟩
theorem viX9_firstRests : MVi mX9_firstRests := ⟨big_of 704 (by decide +kernel) rfl, big_of 18 (by decide +kernel) rfl⟩
abbrev mX9_lossOf : MI := (yX9_lossOf, cX9_lossOf, 6, (some .int))
theorem okX9_lossOf : MOk mX9_lossOf 4 := ⟨big_of 709 (by decide +kernel) rfl, big_of 46 (by decide +kernel) rfl, ⟨by decide +kernel, by decide +kernel, by decide +kernel⟩, by decide⟩
theorem viX9_lossOf : MVi mX9_lossOf := ⟨big_of 708 (by decide +kernel) rfl, big_of 19 (by decide +kernel) rfl⟩
abbrev mX9_behindChoice : MI := (yX9_behindChoice, cX9_behindChoice, 3, (some .int))
theorem okX9_behindChoice : MOk mX9_behindChoice 2 := ⟨big_of 713 (by decide +kernel) rfl, big_of 46 (by decide +kernel) rfl, ⟨by decide +kernel, by decide +kernel, by decide +kernel⟩, by decide⟩
theorem viX9_behindChoice : MVi mX9_behindChoice := ⟨big_of 712 (by decide +kernel) rfl, big_of 20 (by decide +kernel) rfl⟩
abbrev mX9_priceOf : MI := (yX9_priceOf, cX9_priceOf, 1, (some .int))
theorem okX9_priceOf : MOk mX9_priceOf 1 := ⟨big_of 719 (by decide +kernel) rfl, big_of 46 (by decide +kernel) rfl, ⟨by decide +kernel, by decide +kernel, by decide +kernel⟩, by decide⟩
theorem stX9_priceOf : Cond.static mX9_priceOf.1 ∈ lw_big := big_of 718 (by decide +kernel) rfl
abbrev mX9_secondRests : MI := (yX9_secondRests, cX9_secondRests, 7, (some .boolean))
theorem okX9_secondRests : MOk mX9_secondRests 4 := ⟨big_of 723 (by decide +kernel) rfl, big_of 46 (by decide +kernel) rfl, ⟨by decide +kernel, by decide +kernel, by decide +kernel⟩, by decide⟩
theorem viX9_secondRests : MVi mX9_secondRests := ⟨big_of 722 (by decide +kernel) rfl, big_of 21 (by decide +kernel) rfl⟩
abbrev mX9_weak : MI := (yX9_weak, cX9_weak, 10, (some .int))
theorem okX9_weak : MOk mX9_weak 5 := ⟨big_of 727 (by decide +kernel) rfl, big_of 46 (by decide +kernel) rfl, ⟨by decide +kernel, by decide +kernel, by decide +kernel⟩, by decide⟩
theorem viX9_weak : MVi mX9_weak := ⟨big_of 725 (by decide +kernel) rfl, big_of 726 (by decide +kernel) rfl⟩
abbrev mX9_tellChances : MI := (yX9_tellChances, cX9_tellChances, 6, none)
theorem okX9_tellChances : MOk mX9_tellChances 2 := ⟨big_of 731 (by decide +kernel) rfl, big_of 46 (by decide +kernel) rfl, ⟨by decide +kernel, by decide +kernel, by decide +kernel⟩, by decide⟩
theorem viX9_tellChances : MVi mX9_tellChances := ⟨big_of 730 (by decide +kernel) rfl, big_of 22 (by decide +kernel) rfl⟩
abbrev mX9_seed : MI := (yX9_seed, cX9_seed, 5, (some .long))
theorem okX9_seed : MOk mX9_seed 1 := ⟨big_of 735 (by decide +kernel) rfl, big_of 46 (by decide +kernel) rfl, ⟨by decide +kernel, by decide +kernel, by decide +kernel⟩, by decide⟩
theorem viX9_seed : MVi mX9_seed := ⟨big_of 733 (by decide +kernel) rfl, big_of 734 (by decide +kernel) rfl⟩
abbrev mX9_evenings : MI := (yX9_evenings, cX9_evenings, 6, (some .int))
theorem okX9_evenings : MOk mX9_evenings 1 := ⟨big_of 739 (by decide +kernel) rfl, big_of 46 (by decide +kernel) rfl, ⟨by decide +kernel, by decide +kernel, by decide +kernel⟩, by decide⟩
theorem viX9_evenings : MVi mX9_evenings := ⟨big_of 737 (by decide +kernel) rfl, big_of 738 (by decide +kernel) rfl⟩
abbrev mX9_keep : MI := (yX9_keep, cX9_keep, 2, (some .int))
theorem okX9_keep : MOk mX9_keep 1 := ⟨big_of 746 (by decide +kernel) rfl, big_of 46 (by decide +kernel) rfl, ⟨by decide +kernel, by decide +kernel, by decide +kernel⟩, by decide⟩
theorem viX9_keep : MVi mX9_keep := ⟨big_of 744 (by decide +kernel) rfl, big_of 745 (by decide +kernel) rfl⟩
abbrev mX9_again : MI := (yX9_again, cX9_again, 2, (some .int))
theorem okX9_again : MOk mX9_again 1 := ⟨big_of 750 (by decide +kernel) rfl, big_of 46 (by decide +kernel) rfl, ⟨by decide +kernel, by decide +kernel, by decide +kernel⟩, by decide⟩
theorem viX9_again : MVi mX9_again := ⟨big_of 748 (by decide +kernel) rfl, big_of 749 (by decide +kernel) rfl⟩
abbrev mX6_holds : MI := (yX6_holds, cX6_holds, 2, (some .boolean))
theorem okX6_holds : MOk mX6_holds 1 := ⟨big_of 754 (by decide +kernel) rfl, big_of 54 (by decide +kernel) rfl, ⟨by decide +kernel, by decide +kernel, by decide +kernel⟩, by decide⟩
theorem viX6_holds : MVi mX6_holds := ⟨big_of 752 (by decide +kernel) rfl, big_of 753 (by decide +kernel) rfl⟩
abbrev mX9_count : MI := (yX9_count, cX9_count, 2, (some .int))
theorem okX9_count : MOk mX9_count 1 := ⟨big_of 758 (by decide +kernel) rfl, big_of 46 (by decide +kernel) rfl, ⟨by decide +kernel, by decide +kernel, by decide +kernel⟩, by decide⟩
theorem viX9_count : MVi mX9_count := ⟨big_of 756 (by decide +kernel) rfl, big_of 757 (by decide +kernel) rfl⟩
abbrev mX10_write : MI := (yX10_write, cX10_write, 2, (some .int))
theorem okX10_write : MOk mX10_write 1 := ⟨big_of 872 (by decide +kernel) rfl, big_of 58 (by decide +kernel) rfl, ⟨by decide +kernel, by decide +kernel, by decide +kernel⟩, by decide⟩
theorem viX10_write : MVi mX10_write := ⟨big_of 870 (by decide +kernel) rfl, big_of 871 (by decide +kernel) rfl⟩
abbrev mX10_in : MI := (yX10_in, cX10_in, 6, (some .boolean))
theorem okX10_in : MOk mX10_in 3 := ⟨big_of 876 (by decide +kernel) rfl, big_of 58 (by decide +kernel) rfl, ⟨by decide +kernel, by decide +kernel, by decide +kernel⟩, by decide⟩
theorem stX10_in : Cond.static mX10_in.1 ∈ lw_big := big_of 875 (by decide +kernel) rfl
abbrev mX10_wipe : MI := (yX10_wipe, cX10_wipe, 2, (some .int))
theorem okX10_wipe : MOk mX10_wipe 0 := ⟨big_of 880 (by decide +kernel) rfl, big_of 58 (by decide +kernel) rfl, ⟨by decide +kernel, by decide +kernel, by decide +kernel⟩, by decide⟩
theorem viX10_wipe : MVi mX10_wipe := ⟨big_of 878 (by decide +kernel) rfl, big_of 879 (by decide +kernel) rfl⟩
abbrev mX10_fault : MI := (yX10_fault, cX10_fault, 1, (some .int))
theorem okX10_fault : MOk mX10_fault 0 := ⟨big_of 884 (by decide +kernel) rfl, big_of 58 (by decide +kernel) rfl, ⟨by decide +kernel, by decide +kernel, by decide +kernel⟩, by decide⟩
theorem viX10_fault : MVi mX10_fault := ⟨big_of 882 (by decide +kernel) rfl, big_of 883 (by decide +kernel) rfl⟩
abbrev mX10_readText : MI := (yX10_readText, cX10_readText, 1, (some .int))
theorem okX10_readText : MOk mX10_readText 0 := ⟨big_of 888 (by decide +kernel) rfl, big_of 58 (by decide +kernel) rfl, ⟨by decide +kernel, by decide +kernel, by decide +kernel⟩, by decide⟩
theorem viX10_readText : MVi mX10_readText := ⟨big_of 887 (by decide +kernel) rfl, big_of 23 (by decide +kernel) rfl⟩
abbrev mX10_readPart : MI := (yX10_readPart, cX10_readPart, 6, none)
theorem okX10_readPart : MOk mX10_readPart 1 := ⟨big_of 892 (by decide +kernel) rfl, big_of 58 (by decide +kernel) rfl, ⟨by decide +kernel, by decide +kernel, by decide +kernel⟩, by decide⟩
theorem viX10_readPart : MVi mX10_readPart := ⟨big_of 891 (by decide +kernel) rfl, big_of 24 (by decide +kernel) rfl⟩
abbrev mX10_figureOf : MI := (yX10_figureOf, cX10_figureOf, 3, (some .int))
theorem okX10_figureOf : MOk mX10_figureOf 1 := ⟨big_of 896 (by decide +kernel) rfl, big_of 58 (by decide +kernel) rfl, ⟨by decide +kernel, by decide +kernel, by decide +kernel⟩, by decide⟩
theorem viX10_figureOf : MVi mX10_figureOf := ⟨big_of 895 (by decide +kernel) rfl, big_of 25 (by decide +kernel) rfl⟩
abbrev mX10_has : MI := (yX10_has, cX10_has, 2, (some .boolean))
theorem okX10_has : MOk mX10_has 2 := ⟨big_of 900 (by decide +kernel) rfl, big_of 58 (by decide +kernel) rfl, ⟨by decide +kernel, by decide +kernel, by decide +kernel⟩, by decide⟩
theorem stX10_has : Cond.static mX10_has.1 ∈ lw_big := big_of 899 (by decide +kernel) rfl
abbrev mX10_room : MI := (yX10_room, cX10_room, 3, (some .int))
theorem okX10_room : MOk mX10_room 0 := ⟨big_of 904 (by decide +kernel) rfl, big_of 58 (by decide +kernel) rfl, ⟨by decide +kernel, by decide +kernel, by decide +kernel⟩, by decide⟩
theorem viX10_room : MVi mX10_room := ⟨big_of 902 (by decide +kernel) rfl, big_of 903 (by decide +kernel) rfl⟩
abbrev mX10_made : MI := (yX10_made, cX10_made, 6, (some .int))
theorem okX10_made : MOk mX10_made 2 := ⟨big_of 908 (by decide +kernel) rfl, big_of 58 (by decide +kernel) rfl, ⟨by decide +kernel, by decide +kernel, by decide +kernel⟩, by decide⟩
theorem viX10_made : MVi mX10_made := ⟨big_of 907 (by decide +kernel) rfl, big_of 26 (by decide +kernel) rfl⟩
abbrev mX10_stepped : MI := (yX10_stepped, cX10_stepped, 3, (some .int))
theorem okX10_stepped : MOk mX10_stepped 2 := ⟨big_of 912 (by decide +kernel) rfl, big_of 58 (by decide +kernel) rfl, ⟨by decide +kernel, by decide +kernel, by decide +kernel⟩, by decide⟩
theorem viX10_stepped : MVi mX10_stepped := ⟨big_of 911 (by decide +kernel) rfl, big_of 27 (by decide +kernel) rfl⟩
abbrev mX10_stateIn : MI := (yX10_stateIn, cX10_stateIn, 3, (some .int))
theorem okX10_stateIn : MOk mX10_stateIn 2 := ⟨big_of 916 (by decide +kernel) rfl, big_of 58 (by decide +kernel) rfl, ⟨by decide +kernel, by decide +kernel, by decide +kernel⟩, by decide⟩
theorem viX10_stateIn : MVi mX10_stateIn := ⟨big_of 915 (by decide +kernel) rfl, big_of 28 (by decide +kernel) rfl⟩
abbrev mX10_with : MI := (yX10_with, cX10_with, 4, (some .int))
theorem okX10_with : MOk mX10_with 3 := ⟨big_of 920 (by decide +kernel) rfl, big_of 58 (by decide +kernel) rfl, ⟨by decide +kernel, by decide +kernel, by decide +kernel⟩, by decide⟩
theorem viX10_with : MVi mX10_with := ⟨big_of 919 (by decide +kernel) rfl, big_of 29 (by decide +kernel) rfl⟩
abbrev mX10_thing : MI := (yX10_thing, cX10_thing, 3, (some .int))
theorem okX10_thing : MOk mX10_thing 2 := ⟨big_of 924 (by decide +kernel) rfl, big_of 58 (by decide +kernel) rfl, ⟨by decide +kernel, by decide +kernel, by decide +kernel⟩, by decide⟩
theorem viX10_thing : MVi mX10_thing := ⟨big_of 922 (by decide +kernel) rfl, big_of 923 (by decide +kernel) rfl⟩
abbrev mX10_isThing : MI := (yX10_isThing, cX10_isThing, 2, (some .boolean))
theorem okX10_isThing : MOk mX10_isThing 1 := ⟨big_of 928 (by decide +kernel) rfl, big_of 58 (by decide +kernel) rfl, ⟨by decide +kernel, by decide +kernel, by decide +kernel⟩, by decide⟩
theorem viX10_isThing : MVi mX10_isThing := ⟨big_of 927 (by decide +kernel) rfl, big_of 30 (by decide +kernel) rfl⟩
abbrev mX10_button : MI := (yX10_button, cX10_button, 3, (some .int))
theorem okX10_button : MOk mX10_button 2 := ⟨big_of 932 (by decide +kernel) rfl, big_of 58 (by decide +kernel) rfl, ⟨by decide +kernel, by decide +kernel, by decide +kernel⟩, by decide⟩
theorem viX10_button : MVi mX10_button := ⟨big_of 930 (by decide +kernel) rfl, big_of 931 (by decide +kernel) rfl⟩
abbrev mX10_isButton : MI := (yX10_isButton, cX10_isButton, 2, (some .boolean))
theorem okX10_isButton : MOk mX10_isButton 1 := ⟨big_of 936 (by decide +kernel) rfl, big_of 58 (by decide +kernel) rfl, ⟨by decide +kernel, by decide +kernel, by decide +kernel⟩, by decide⟩
theorem viX10_isButton : MVi mX10_isButton := ⟨big_of 935 (by decide +kernel) rfl, big_of 31 (by decide +kernel) rfl⟩
abbrev mX10_press : MI := (yX10_press, cX10_press, 2, (some .int))
theorem okX10_press : MOk mX10_press 1 := ⟨big_of 940 (by decide +kernel) rfl, big_of 58 (by decide +kernel) rfl, ⟨by decide +kernel, by decide +kernel, by decide +kernel⟩, by decide⟩
theorem viX10_press : MVi mX10_press := ⟨big_of 938 (by decide +kernel) rfl, big_of 939 (by decide +kernel) rfl⟩
abbrev mX10_keepAct : MI := (yX10_keepAct, cX10_keepAct, 1, none)
theorem okX10_keepAct : MOk mX10_keepAct 0 := ⟨big_of 944 (by decide +kernel) rfl, big_of 58 (by decide +kernel) rfl, ⟨by decide +kernel, by decide +kernel, by decide +kernel⟩, by decide⟩
theorem viX10_keepAct : MVi mX10_keepAct := ⟨big_of 943 (by decide +kernel) rfl, big_of 32 (by decide +kernel) rfl⟩
abbrev mX10_figuresOf : MI := (yX10_figuresOf, cX10_figuresOf, 4, (some .int))
theorem okX10_figuresOf : MOk mX10_figuresOf 1 := ⟨big_of 948 (by decide +kernel) rfl, big_of 58 (by decide +kernel) rfl, ⟨by decide +kernel, by decide +kernel, by decide +kernel⟩, by decide⟩
theorem viX10_figuresOf : MVi mX10_figuresOf := ⟨big_of 947 (by decide +kernel) rfl, big_of 33 (by decide +kernel) rfl⟩
abbrev mX10_miss : MI := (yX10_miss, cX10_miss, 2, (some .int))
theorem okX10_miss : MOk mX10_miss 1 := ⟨big_of 952 (by decide +kernel) rfl, big_of 58 (by decide +kernel) rfl, ⟨by decide +kernel, by decide +kernel, by decide +kernel⟩, by decide⟩
theorem viX10_miss : MVi mX10_miss := ⟨big_of 950 (by decide +kernel) rfl, big_of 951 (by decide +kernel) rfl⟩
abbrev mX10_step : MI := (yX10_step, cX10_step, 2, (some .int))
theorem okX10_step : MOk mX10_step 1 := ⟨big_of 956 (by decide +kernel) rfl, big_of 58 (by decide +kernel) rfl, ⟨by decide +kernel, by decide +kernel, by decide +kernel⟩, by decide⟩
theorem viX10_step : MVi mX10_step := ⟨big_of 954 (by decide +kernel) rfl, big_of 955 (by decide +kernel) rfl⟩
abbrev mX10_find : MI := (yX10_find, cX10_find, 3, (some .int))
theorem okX10_find : MOk mX10_find 0 := ⟨big_of 960 (by decide +kernel) rfl, big_of 58 (by decide +kernel) rfl, ⟨by decide +kernel, by decide +kernel, by decide +kernel⟩, by decide⟩
theorem viX10_find : MVi mX10_find := ⟨big_of 958 (by decide +kernel) rfl, big_of 959 (by decide +kernel) rfl⟩
abbrev mX10_undo : MI := (yX10_undo, cX10_undo, 1, (some .int))
theorem okX10_undo : MOk mX10_undo 0 := ⟨big_of 964 (by decide +kernel) rfl, big_of 58 (by decide +kernel) rfl, ⟨by decide +kernel, by decide +kernel, by decide +kernel⟩, by decide⟩
theorem viX10_undo : MVi mX10_undo := ⟨big_of 962 (by decide +kernel) rfl, big_of 963 (by decide +kernel) rfl⟩
abbrev mX10_after : MI := (yX10_after, cX10_after, 4, (some .int))
theorem okX10_after : MOk mX10_after 2 := ⟨big_of 968 (by decide +kernel) rfl, big_of 58 (by decide +kernel) rfl, ⟨by decide +kernel, by decide +kernel, by decide +kernel⟩, by decide⟩
theorem viX10_after : MVi mX10_after := ⟨big_of 966 (by decide +kernel) rfl, big_of 967 (by decide +kernel) rfl⟩
abbrev mX10_isRow : MI := (yX10_isRow, cX10_isRow, 4, (some .boolean))
theorem okX10_isRow : MOk mX10_isRow 4 := ⟨big_of 971 (by decide +kernel) rfl, big_of 58 (by decide +kernel) rfl, ⟨by decide +kernel, by decide +kernel, by decide +kernel⟩, by decide⟩
theorem stX10_isRow : Cond.static mX10_isRow.1 ∈ lw_big := big_of 970 (by decide +kernel) rfl
abbrev mX10_tenTo : MI := (yX10_tenTo, cX10_tenTo, 3, (some .int))
theorem okX10_tenTo : MOk mX10_tenTo 1 := ⟨big_of 974 (by decide +kernel) rfl, big_of 58 (by decide +kernel) rfl, ⟨by decide +kernel, by decide +kernel, by decide +kernel⟩, by decide⟩
theorem stX10_tenTo : Cond.static mX10_tenTo.1 ∈ lw_big := big_of 973 (by decide +kernel) rfl
abbrev mX10_afterRow : MI := (yX10_afterRow, cX10_afterRow, 7, (some .int))
theorem okX10_afterRow : MOk mX10_afterRow 3 := ⟨big_of 978 (by decide +kernel) rfl, big_of 58 (by decide +kernel) rfl, ⟨by decide +kernel, by decide +kernel, by decide +kernel⟩, by decide⟩
theorem viX10_afterRow : MVi mX10_afterRow := ⟨big_of 977 (by decide +kernel) rfl, big_of 34 (by decide +kernel) rfl⟩
abbrev mX10_all : MI := (yX10_all, cX10_all, 3, (some .int))
theorem okX10_all : MOk mX10_all 0 := ⟨big_of 982 (by decide +kernel) rfl, big_of 58 (by decide +kernel) rfl, ⟨by decide +kernel, by decide +kernel, by decide +kernel⟩, by decide⟩
theorem viX10_all : MVi mX10_all := ⟨big_of 980 (by decide +kernel) rfl, big_of 981 (by decide +kernel) rfl⟩
abbrev mX10_fewest : MI := (yX10_fewest, cX10_fewest, 7, (some .int))
theorem okX10_fewest : MOk mX10_fewest 2 := ⟨big_of 986 (by decide +kernel) rfl, big_of 58 (by decide +kernel) rfl, ⟨by decide +kernel, by decide +kernel, by decide +kernel⟩, by decide⟩
theorem viX10_fewest : MVi mX10_fewest := ⟨big_of 984 (by decide +kernel) rfl, big_of 985 (by decide +kernel) rfl⟩
abbrev mX10_messOf : MI := (yX10_messOf, cX10_messOf, 6, (some .int))
theorem okX10_messOf : MOk mX10_messOf 1 := ⟨big_of 990 (by decide +kernel) rfl, big_of 58 (by decide +kernel) rfl, ⟨by decide +kernel, by decide +kernel, by decide +kernel⟩, by decide⟩
theorem viX10_messOf : MVi mX10_messOf := ⟨big_of 989 (by decide +kernel) rfl, big_of 35 (by decide +kernel) rfl⟩
abbrev mX10_every : MI := (yX10_every, cX10_every, 1, (some .int))
theorem okX10_every : MOk mX10_every 0 := ⟨big_of 994 (by decide +kernel) rfl, big_of 58 (by decide +kernel) rfl, ⟨by decide +kernel, by decide +kernel, by decide +kernel⟩, by decide⟩
theorem viX10_every : MVi mX10_every := ⟨big_of 993 (by decide +kernel) rfl, big_of 36 (by decide +kernel) rfl⟩
abbrev mX10_layFar : MI := (yX10_layFar, cX10_layFar, 7, (some .int))
theorem okX10_layFar : MOk mX10_layFar 2 := ⟨big_of 998 (by decide +kernel) rfl, big_of 58 (by decide +kernel) rfl, ⟨by decide +kernel, by decide +kernel, by decide +kernel⟩, by decide⟩
theorem viX10_layFar : MVi mX10_layFar := ⟨big_of 997 (by decide +kernel) rfl, big_of 37 (by decide +kernel) rfl⟩
abbrev mX10_worst : MI := (yX10_worst, cX10_worst, 4, (some .int))
theorem okX10_worst : MOk mX10_worst 2 := ⟨big_of 1002 (by decide +kernel) rfl, big_of 58 (by decide +kernel) rfl, ⟨by decide +kernel, by decide +kernel, by decide +kernel⟩, by decide⟩
theorem viX10_worst : MVi mX10_worst := ⟨big_of 1000 (by decide +kernel) rfl, big_of 1001 (by decide +kernel) rfl⟩
abbrev mX10_reached : MI := (yX10_reached, cX10_reached, 5, (some .int))
theorem okX10_reached : MOk mX10_reached 2 := ⟨big_of 1006 (by decide +kernel) rfl, big_of 58 (by decide +kernel) rfl, ⟨by decide +kernel, by decide +kernel, by decide +kernel⟩, by decide⟩
theorem viX10_reached : MVi mX10_reached := ⟨big_of 1005 (by decide +kernel) rfl, big_of 38 (by decide +kernel) rfl⟩
abbrev mX10_sure : MI := (yX10_sure, cX10_sure, 6, (some .int))
theorem okX10_sure : MOk mX10_sure 2 := ⟨big_of 1010 (by decide +kernel) rfl, big_of 58 (by decide +kernel) rfl, ⟨by decide +kernel, by decide +kernel, by decide +kernel⟩, by decide⟩
theorem viX10_sure : MVi mX10_sure := ⟨big_of 1008 (by decide +kernel) rfl, big_of 1009 (by decide +kernel) rfl⟩
abbrev mX10_isSure : MI := (yX10_isSure, cX10_isSure, 6, (some .boolean))
theorem okX10_isSure : MOk mX10_isSure 3 := ⟨big_of 1014 (by decide +kernel) rfl, big_of 58 (by decide +kernel) rfl, ⟨by decide +kernel, by decide +kernel, by decide +kernel⟩, by decide⟩
theorem viX10_isSure : MVi mX10_isSure := ⟨big_of 1013 (by decide +kernel) rfl, big_of 39 (by decide +kernel) rfl⟩
abbrev mX10_needed : MI := (yX10_needed, cX10_needed, 5, (some .int))
theorem okX10_needed : MOk mX10_needed 1 := ⟨big_of 1018 (by decide +kernel) rfl, big_of 58 (by decide +kernel) rfl, ⟨by decide +kernel, by decide +kernel, by decide +kernel⟩, by decide⟩
theorem viX10_needed : MVi mX10_needed := ⟨big_of 1016 (by decide +kernel) rfl, big_of 1017 (by decide +kernel) rfl⟩
abbrev mX10_ones : MI := (yX10_ones, cX10_ones, 3, (some .int))
theorem okX10_ones : MOk mX10_ones 1 := ⟨big_of 1021 (by decide +kernel) rfl, big_of 58 (by decide +kernel) rfl, ⟨by decide +kernel, by decide +kernel, by decide +kernel⟩, by decide⟩
theorem stX10_ones : Cond.static mX10_ones.1 ∈ lw_big := big_of 1020 (by decide +kernel) rfl
abbrev mX10_judge : MI := (yX10_judge, cX10_judge, 6, (some .int))
theorem okX10_judge : MOk mX10_judge 2 := ⟨big_of 1025 (by decide +kernel) rfl, big_of 58 (by decide +kernel) rfl, ⟨by decide +kernel, by decide +kernel, by decide +kernel⟩, by decide⟩
theorem viX10_judge : MVi mX10_judge := ⟨big_of 1023 (by decide +kernel) rfl, big_of 1024 (by decide +kernel) rfl⟩
abbrev mX10_see : MI := (yX10_see, cX10_see, 4, (some .int))
theorem okX10_see : MOk mX10_see 3 := ⟨big_of 1029 (by decide +kernel) rfl, big_of 58 (by decide +kernel) rfl, ⟨by decide +kernel, by decide +kernel, by decide +kernel⟩, by decide⟩
theorem viX10_see : MVi mX10_see := ⟨big_of 1027 (by decide +kernel) rfl, big_of 1028 (by decide +kernel) rfl⟩
abbrev mX10_unsee : MI := (yX10_unsee, cX10_unsee, 2, (some .int))
theorem okX10_unsee : MOk mX10_unsee 0 := ⟨big_of 1034 (by decide +kernel) rfl, big_of 58 (by decide +kernel) rfl, ⟨by decide +kernel, by decide +kernel, by decide +kernel⟩, by decide⟩
theorem viX10_unsee : MVi mX10_unsee := ⟨big_of 1032 (by decide +kernel) rfl, big_of 1033 (by decide +kernel) rfl⟩
abbrev mX10_may : MI := (yX10_may, cX10_may, 7, (some .int))
theorem okX10_may : MOk mX10_may 1 := ⟨big_of 1038 (by decide +kernel) rfl, big_of 58 (by decide +kernel) rfl, ⟨by decide +kernel, by decide +kernel, by decide +kernel⟩, by decide⟩
theorem viX10_may : MVi mX10_may := ⟨big_of 1036 (by decide +kernel) rfl, big_of 1037 (by decide +kernel) rfl⟩
abbrev mX10_mayBe : MI := (yX10_mayBe, cX10_mayBe, 6, (some .boolean))
theorem okX10_mayBe : MOk mX10_mayBe 1 := ⟨big_of 1043 (by decide +kernel) rfl, big_of 58 (by decide +kernel) rfl, ⟨by decide +kernel, by decide +kernel, by decide +kernel⟩, by decide⟩
theorem viX10_mayBe : MVi mX10_mayBe := ⟨big_of 1042 (by decide +kernel) rfl, big_of 40 (by decide +kernel) rfl⟩
abbrev mX10_lightsOf : MI := (yX10_lightsOf, cX10_lightsOf, 4, (some .int))
theorem okX10_lightsOf : MOk mX10_lightsOf 1 := ⟨big_of 1047 (by decide +kernel) rfl, big_of 58 (by decide +kernel) rfl, ⟨by decide +kernel, by decide +kernel, by decide +kernel⟩, by decide⟩
theorem viX10_lightsOf : MVi mX10_lightsOf := ⟨big_of 1046 (by decide +kernel) rfl, big_of 41 (by decide +kernel) rfl⟩
abbrev mX10_tells : MI := (yX10_tells, cX10_tells, 7, (some .int))
theorem okX10_tells : MOk mX10_tells 1 := ⟨big_of 1051 (by decide +kernel) rfl, big_of 58 (by decide +kernel) rfl, ⟨by decide +kernel, by decide +kernel, by decide +kernel⟩, by decide⟩
theorem viX10_tells : MVi mX10_tells := ⟨big_of 1049 (by decide +kernel) rfl, big_of 1050 (by decide +kernel) rfl⟩
abbrev mX10_greatest : MI := (yX10_greatest, cX10_greatest, 5, (some .int))
theorem okX10_greatest : MOk mX10_greatest 1 := ⟨big_of 1055 (by decide +kernel) rfl, big_of 58 (by decide +kernel) rfl, ⟨by decide +kernel, by decide +kernel, by decide +kernel⟩, by decide⟩
theorem viX10_greatest : MVi mX10_greatest := ⟨big_of 1054 (by decide +kernel) rfl, big_of 42 (by decide +kernel) rfl⟩
abbrev mX10_share : MI := (yX10_share, cX10_share, 8, (some .int))
theorem okX10_share : MOk mX10_share 3 := ⟨big_of 1059 (by decide +kernel) rfl, big_of 58 (by decide +kernel) rfl, ⟨by decide +kernel, by decide +kernel, by decide +kernel⟩, by decide⟩
theorem viX10_share : MVi mX10_share := ⟨big_of 1057 (by decide +kernel) rfl, big_of 1058 (by decide +kernel) rfl⟩
abbrev mX10_factorial : MI := (yX10_factorial, cX10_factorial, 3, (some .int))
theorem okX10_factorial : MOk mX10_factorial 1 := ⟨big_of 1062 (by decide +kernel) rfl, big_of 58 (by decide +kernel) rfl, ⟨by decide +kernel, by decide +kernel, by decide +kernel⟩, by decide⟩
theorem stX10_factorial : Cond.static mX10_factorial.1 ∈ lw_big := big_of 1061 (by decide +kernel) rfl
abbrev mX10_common : MI := (yX10_common, cX10_common, 5, (some .int))
theorem okX10_common : MOk mX10_common 2 := ⟨big_of 1065 (by decide +kernel) rfl, big_of 58 (by decide +kernel) rfl, ⟨by decide +kernel, by decide +kernel, by decide +kernel⟩, by decide⟩
theorem stX10_common : Cond.static mX10_common.1 ∈ lw_big := big_of 1064 (by decide +kernel) rfl
abbrev mX10_rests : MI := (yX10_rests, cX10_rests, 10, (some .int))
theorem okX10_rests : MOk mX10_rests 5 := ⟨big_of 1069 (by decide +kernel) rfl, big_of 58 (by decide +kernel) rfl, ⟨by decide +kernel, by decide +kernel, by decide +kernel⟩, by decide⟩
theorem viX10_rests : MVi mX10_rests := ⟨big_of 1067 (by decide +kernel) rfl, big_of 1068 (by decide +kernel) rfl⟩
abbrev mX10_isRest : MI := (yX10_isRest, cX10_isRest, 9, (some .boolean))
theorem okX10_isRest : MOk mX10_isRest 6 := ⟨big_of 1073 (by decide +kernel) rfl, big_of 58 (by decide +kernel) rfl, ⟨by decide +kernel, by decide +kernel, by decide +kernel⟩, by decide⟩
theorem viX10_isRest : MVi mX10_isRest := ⟨big_of 1072 (by decide +kernel) rfl, big_of 43 (by decide +kernel) rfl⟩
abbrev mX10_loses : MI := (yX10_loses, cX10_loses, 7, (some .int))
theorem okX10_loses : MOk mX10_loses 5 := ⟨big_of 1077 (by decide +kernel) rfl, big_of 58 (by decide +kernel) rfl, ⟨by decide +kernel, by decide +kernel, by decide +kernel⟩, by decide⟩
theorem viX10_loses : MVi mX10_loses := ⟨big_of 1076 (by decide +kernel) rfl, big_of 44 (by decide +kernel) rfl⟩
abbrev mX10_apart : MI := (yX10_apart, cX10_apart, 2, (some .int))
theorem okX10_apart : MOk mX10_apart 2 := ⟨big_of 1080 (by decide +kernel) rfl, big_of 58 (by decide +kernel) rfl, ⟨by decide +kernel, by decide +kernel, by decide +kernel⟩, by decide⟩
theorem stX10_apart : Cond.static mX10_apart.1 ∈ lw_big := big_of 1079 (by decide +kernel) rfl
abbrev mX10_weak : MI := (yX10_weak, cX10_weak, 13, (some .int))
theorem okX10_weak : MOk mX10_weak 5 := ⟨big_of 1084 (by decide +kernel) rfl, big_of 58 (by decide +kernel) rfl, ⟨by decide +kernel, by decide +kernel, by decide +kernel⟩, by decide⟩
theorem viX10_weak : MVi mX10_weak := ⟨big_of 1082 (by decide +kernel) rfl, big_of 1083 (by decide +kernel) rfl⟩
abbrev mX10_seed : MI := (yX10_seed, cX10_seed, 5, (some .long))
theorem okX10_seed : MOk mX10_seed 1 := ⟨big_of 1090 (by decide +kernel) rfl, big_of 58 (by decide +kernel) rfl, ⟨by decide +kernel, by decide +kernel, by decide +kernel⟩, by decide⟩
theorem viX10_seed : MVi mX10_seed := ⟨big_of 1088 (by decide +kernel) rfl, big_of 1089 (by decide +kernel) rfl⟩
abbrev mX10_evenings : MI := (yX10_evenings, cX10_evenings, 6, (some .int))
theorem okX10_evenings : MOk mX10_evenings 1 := ⟨big_of 1094 (by decide +kernel) rfl, big_of 58 (by decide +kernel) rfl, ⟨by decide +kernel, by decide +kernel, by decide +kernel⟩, by decide⟩
theorem viX10_evenings : MVi mX10_evenings := ⟨big_of 1092 (by decide +kernel) rfl, big_of 1093 (by decide +kernel) rfl⟩
abbrev mX10_keep : MI := (yX10_keep, cX10_keep, 2, (some .int))
theorem okX10_keep : MOk mX10_keep 1 := ⟨big_of 1102 (by decide +kernel) rfl, big_of 58 (by decide +kernel) rfl, ⟨by decide +kernel, by decide +kernel, by decide +kernel⟩, by decide⟩
theorem viX10_keep : MVi mX10_keep := ⟨big_of 1100 (by decide +kernel) rfl, big_of 1101 (by decide +kernel) rfl⟩
abbrev mX10_again : MI := (yX10_again, cX10_again, 2, (some .int))
theorem okX10_again : MOk mX10_again 1 := ⟨big_of 1106 (by decide +kernel) rfl, big_of 58 (by decide +kernel) rfl, ⟨by decide +kernel, by decide +kernel, by decide +kernel⟩, by decide⟩
theorem viX10_again : MVi mX10_again := ⟨big_of 1104 (by decide +kernel) rfl, big_of 1105 (by decide +kernel) rfl⟩
abbrev mX10_count : MI := (yX10_count, cX10_count, 2, (some .int))
theorem okX10_count : MOk mX10_count 1 := ⟨big_of 1110 (by decide +kernel) rfl, big_of 58 (by decide +kernel) rfl, ⟨by decide +kernel, by decide +kernel, by decide +kernel⟩, by decide⟩
theorem viX10_count : MVi mX10_count := ⟨big_of 1108 (by decide +kernel) rfl, big_of 1109 (by decide +kernel) rfl⟩
theorem lkX6_9 : LKj RX6 9 Lib.Math.max.name (Cond.code Lib.Math.max.name Lib.Math.max.code 2 (some .int)) := ⟨big_of 222 (by decide +kernel) rfl, big_of 223 (by decide +kernel) rfl, big_of 224 (by decide +kernel) rfl⟩
theorem lkX6_27 : LKm RX6 27 mJ7_fill_53178 := Or.inl (big_of 225 (by decide +kernel) rfl)
theorem lkX9_80 : LKm RX9 80 mX2_make := Or.inl (big_of 268 (by decide +kernel) rfl)
theorem lkX2_28 : LKm RX2 28 mX0_copy := Or.inl (big_of 272 (by decide +kernel) rfl)
theorem lkX0_42 : LKm RX0 42 mX0_addThing := Or.inl (big_of 279 (by decide +kernel) rfl)
theorem lkX0_46 : LKm RX0 46 mX0_addButton := Or.inl (big_of 286 (by decide +kernel) rfl)
theorem lkX2_39 : LKm RX2 39 mX2_tellCode := Or.inl (big_of 290 (by decide +kernel) rfl)
theorem lkX2_43 : LKm RX2 43 mX2_stateIn := Or.inl (big_of 294 (by decide +kernel) rfl)
theorem lkX2_84 : LKm RX2 84 mX2_shiftOf := Or.inl (big_of 298 (by decide +kernel) rfl)
theorem lkX2_47 : LKm RX2 47 mX2_statesOf := Or.inl (big_of 302 (by decide +kernel) rfl)
theorem lkX2_58 : LKm RX2 58 mX2_done := Or.inl (big_of 308 (by decide +kernel) rfl)
theorem lkX2_74 : LKm RX2 74 mX2_with := Or.inl (big_of 312 (by decide +kernel) rfl)
theorem lkX2_78 : LKm RX2 78 mX2_switched := Or.inl (big_of 316 (by decide +kernel) rfl)
theorem lkX2_81 : LKm RX2 81 mX2_stepped := Or.inl (big_of 320 (by decide +kernel) rfl)
theorem lkX9_84 : LKm RX9 84 mX1_make := Or.inl (big_of 324 (by decide +kernel) rfl)
theorem lkX1_24 : LKm RX1 24 mJ7_fill_53178 := Or.inl (big_of 328 (by decide +kernel) rfl)
theorem lkX1_36 : LKm RX1 36 mX2_buttons := Or.inl (big_of 329 (by decide +kernel) rfl)
theorem lkX1_40 : LKm RX1 40 mX2_behind := Or.inl (big_of 333 (by decide +kernel) rfl)
theorem lkX1_52 : LKm RX1 52 mX1_fillFromTheEnds := Or.inl (big_of 339 (by decide +kernel) rfl)
theorem lkL_13 : LKm RL 13 mX9_write := Or.inl (big_of 383 (by decide +kernel) rfl)
theorem lkX9_87 : LKm RX9 87 mX8_isFull := Or.inl (big_of 387 (by decide +kernel) rfl)
theorem lkX9_91 : LKm RX9 91 mX8_append := Or.inl (big_of 391 (by decide +kernel) rfl)
theorem lkX9_94 : LKm RX9 94 mX8_size := Or.inl (big_of 396 (by decide +kernel) rfl)
theorem lkL_18 : LKm RL 18 mX9_wipe := Or.inl (big_of 400 (by decide +kernel) rfl)
theorem lkX9_98 : LKm RX9 98 mX8_empty := Or.inl (big_of 404 (by decide +kernel) rfl)
theorem lkL_23 : LKm RL 23 mX9_fault := Or.inl (big_of 408 (by decide +kernel) rfl)
theorem lkX9_101 : LKm RX9 101 mX3_firstFault := Or.inl (big_of 412 (by decide +kernel) rfl)
theorem lkX3_25 : LKm RX3 25 mX8_letterAt := Or.inl (big_of 416 (by decide +kernel) rfl)
theorem lkX3_31 : LKm RX3 31 mX8_size := Or.inl (big_of 421 (by decide +kernel) rfl)
theorem lkX3_35 : LKm RX3 35 mX3_readThing := Or.inl (big_of 422 (by decide +kernel) rfl)
theorem lkX3_42 : LKm RX3 42 mX8_figureAt := Or.inl (big_of 426 (by decide +kernel) rfl)
theorem lkX8_27 : LKm RX8 27 mX8_letterAt := Or.inl (big_of 430 (by decide +kernel) rfl)
theorem lkX3_45 : LKm RX3 45 mX0_addThing := Or.inl (big_of 431 (by decide +kernel) rfl)
theorem lkX3_39 : LKm RX3 39 mX3_readButton := Or.inl (big_of 432 (by decide +kernel) rfl)
theorem lkX3_49 : LKm RX3 49 mX3_mayBeExtra := Or.inl (big_of 436 (by decide +kernel) rfl)
theorem lkX3_53 : LKm RX3 53 mX0_addButton := Or.inl (big_of 441 (by decide +kernel) rfl)
theorem lkL_27 : LKm RL 27 mX9_room := Or.inl (big_of 442 (by decide +kernel) rfl)
theorem lkX9_109 : LKm RX9 109 mX2_firstCode := Or.inl (big_of 446 (by decide +kernel) rfl)
theorem lkX9_124 : LKm RX9 124 mX6_empty := Or.inl (big_of 450 (by decide +kernel) rfl)
theorem lkX9_125 : LKm RX9 125 mX2_things := Or.inl (big_of 454 (by decide +kernel) rfl)
theorem lkX9_128 : LKm RX9 128 mX2_buttons := Or.inl (big_of 458 (by decide +kernel) rfl)
theorem lkL_31 : LKm RL 31 mX9_thing := Or.inl (big_of 459 (by decide +kernel) rfl)
theorem lkX9_131 : LKm RX9 131 mX2_hasThing := Or.inl (big_of 463 (by decide +kernel) rfl)
theorem lkX9_135 : LKm RX9 135 mX2_statesOf := Or.inl (big_of 467 (by decide +kernel) rfl)
theorem lkX9_139 : LKm RX9 139 mX2_stateIn := Or.inl (big_of 468 (by decide +kernel) rfl)
theorem lkL_36 : LKm RL 36 mX9_button := Or.inl (big_of 469 (by decide +kernel) rfl)
theorem lkX9_143 : LKm RX9 143 mX2_hasButton := Or.inl (big_of 473 (by decide +kernel) rfl)
theorem lkX9_152 : LKm RX9 152 mX9_at := Or.inl (big_of 477 (by decide +kernel) rfl)
theorem lkL_40 : LKm RL 40 mX9_press := Or.inl (big_of 478 (by decide +kernel) rfl)
theorem lkX9_162 : LKm RX9 162 mX9_rememberAct := Or.inl (big_of 482 (by decide +kernel) rfl)
theorem lkX9_294 : LKm RX9 294 mX6_forgetFirst := Or.inl (big_of 486 (by decide +kernel) rfl)
theorem lkX9_288 : LKm RX9 288 mX6_store := Or.inl (big_of 492 (by decide +kernel) rfl)
theorem lkX9_165 : LKm RX9 165 mX2_behind := Or.inl (big_of 496 (by decide +kernel) rfl)
theorem lkX9_168 : LKm RX9 168 mX2_messOf := Or.inl (big_of 497 (by decide +kernel) rfl)
theorem lkL_44 : LKm RL 44 mX9_miss := Or.inl (big_of 501 (by decide +kernel) rfl)
theorem lkL_48 : LKm RL 48 mX9_step := Or.inl (big_of 505 (by decide +kernel) rfl)
theorem lkX9_171 : LKm RX9 171 mX2_stepped := Or.inl (big_of 509 (by decide +kernel) rfl)
theorem lkL_52 : LKm RL 52 mX9_find := Or.inl (big_of 510 (by decide +kernel) rfl)
theorem lkL_56 : LKm RL 56 mX9_undo := Or.inl (big_of 514 (by decide +kernel) rfl)
theorem lkX9_174 : LKm RX9 174 mX6_fetch := Or.inl (big_of 518 (by decide +kernel) rfl)
theorem lkL_60 : LKm RL 60 mX9_after := Or.inl (big_of 522 (by decide +kernel) rfl)
theorem lkX9_178 : LKm RX9 178 mX9_isRow := Or.inl (big_of 526 (by decide +kernel) rfl)
theorem lkX9_182 : LKm RX9 182 mX4_read := Or.inl (big_of 531 (by decide +kernel) rfl)
theorem lkX9_186 : LKm RX9 186 mX4_isKnownTo := Or.inl (big_of 536 (by decide +kernel) rfl)
theorem lkX4_27 : LKm RX4 27 mX4_buttonAt := Or.inl (big_of 540 (by decide +kernel) rfl)
theorem lkX4_31 : LKm RX4 31 mX2_hasButton := Or.inl (big_of 545 (by decide +kernel) rfl)
theorem lkX9_190 : LKm RX9 190 mX4_behind := Or.inl (big_of 546 (by decide +kernel) rfl)
theorem lkX4_37 : LKm RX4 37 mX2_behind := Or.inl (big_of 550 (by decide +kernel) rfl)
theorem lkL_64 : LKm RL 64 mX9_all := Or.inl (big_of 551 (by decide +kernel) rfl)
theorem lkL_68 : LKm RL 68 mX9_fewest := Or.inl (big_of 555 (by decide +kernel) rfl)
theorem lkX9_193 : LKm RX9 193 mX2_codeOf := Or.inl (big_of 559 (by decide +kernel) rfl)
theorem lkX9_196 : LKm RX9 196 mX2_everyButton := Or.inl (big_of 563 (by decide +kernel) rfl)
theorem lkX9_199 : LKm RX9 199 mX1_spread := Or.inl (big_of 567 (by decide +kernel) rfl)
theorem lkX1_59 : LKm RX1 59 mX1_reachFrom := Or.inl (big_of 571 (by decide +kernel) rfl)
theorem lkX9_202 : LKm RX9 202 mX1_distanceOf := Or.inl (big_of 575 (by decide +kernel) rfl)
theorem lkX9_205 : LKm RX9 205 mX9_firstShortest := Or.inl (big_of 579 (by decide +kernel) rfl)
theorem lkX9_297 : LKm RX9 297 mX9_firstNearer := Or.inl (big_of 583 (by decide +kernel) rfl)
theorem lkL_73 : LKm RL 73 mX9_worst := Or.inl (big_of 587 (by decide +kernel) rfl)
theorem lkX9_208 : LKm RX9 208 mX1_greatestDistance := Or.inl (big_of 591 (by decide +kernel) rfl)
theorem lkL_77 : LKm RL 77 mX9_sure := Or.inl (big_of 595 (by decide +kernel) rfl)
theorem lkX9_211 : LKm RX9 211 mX9_figuresOf := Or.inl (big_of 599 (by decide +kernel) rfl)
theorem lkX9_214 : LKm RX9 214 mX4_bringsAll := Or.inl (big_of 602 (by decide +kernel) rfl)
theorem lkX4_44 : LKm RX4 44 mX2_isReal := Or.inl (big_of 606 (by decide +kernel) rfl)
theorem lkX2_90 : LKm RX2 90 mX2_messOf := Or.inl (big_of 610 (by decide +kernel) rfl)
theorem lkX4_47 : LKm RX4 47 mX4_behind := Or.inl (big_of 611 (by decide +kernel) rfl)
theorem lkL_81 : LKm RL 81 mX9_needed := Or.inl (big_of 612 (by decide +kernel) rfl)
theorem lkX9_218 : LKm RX9 218 mJ6_bitCount_0f7a4 := Or.inl (big_of 616 (by decide +kernel) rfl)
theorem lkX9_223 : LKm RX9 223 mX9_reaches := Or.inl (big_of 622 (by decide +kernel) rfl)
theorem lkL_85 : LKm RL 85 mX9_judge := Or.inl (big_of 626 (by decide +kernel) rfl)
theorem lkX9_226 : LKm RX9 226 mX4_buttonAt := Or.inl (big_of 630 (by decide +kernel) rfl)
theorem lkL_89 : LKm RL 89 mX9_see := Or.inl (big_of 631 (by decide +kernel) rfl)
theorem lkX9_232 : LKm RX9 232 mX5_add := Or.inl (big_of 635 (by decide +kernel) rfl)
theorem lkL_94 : LKm RL 94 mX9_unsee := Or.inl (big_of 640 (by decide +kernel) rfl)
theorem lkL_98 : LKm RL 98 mX9_may := Or.inl (big_of 644 (by decide +kernel) rfl)
theorem lkX9_236 : LKm RX9 236 mX5_narrow := Or.inl (big_of 648 (by decide +kernel) rfl)
theorem lkX5_39 : LKm RX5 39 mX2_isReal := Or.inl (big_of 652 (by decide +kernel) rfl)
theorem lkX5_47 : LKm RX5 47 mX4_read := Or.inl (big_of 654 (by decide +kernel) rfl)
theorem lkX5_53 : LKm RX5 53 mX4_isKnownTo := Or.inl (big_of 655 (by decide +kernel) rfl)
theorem lkX5_57 : LKm RX5 57 mX2_things := Or.inl (big_of 656 (by decide +kernel) rfl)
theorem lkX5_61 : LKm RX5 61 mX5_narrowBy := Or.inl (big_of 657 (by decide +kernel) rfl)
theorem lkX5_65 : LKm RX5 65 mX4_behind := Or.inl (big_of 661 (by decide +kernel) rfl)
theorem lkX5_69 : LKm RX5 69 mX2_lightsIn := Or.inl (big_of 662 (by decide +kernel) rfl)
theorem lkX9_246 : LKm RX9 246 mX9_thingsInOneState := Or.inl (big_of 666 (by decide +kernel) rfl)
theorem lkL_102 : LKm RL 102 mX9_tells := Or.inl (big_of 670 (by decide +kernel) rfl)
theorem lkX9_249 : LKm RX9 249 mX9_mostAlikeBehind := Or.inl (big_of 674 (by decide +kernel) rfl)
theorem lkX9_300 : LKm RX9 300 mJ7_fill_53178 := Or.inl (big_of 678 (by decide +kernel) rfl)
theorem lkX9_285 : LKm RX9 285 mX2_lightsIn := Or.inl (big_of 679 (by decide +kernel) rfl)
theorem lkX9_306 : LKm RX9 306 mX9_put := Or.inl (big_of 680 (by decide +kernel) rfl)
theorem lkX9_310 : LKj RX9 310 Lib.Math.max.name (Cond.code Lib.Math.max.name Lib.Math.max.code 2 (some .int)) := ⟨big_of 681 (by decide +kernel) rfl, big_of 223 (by decide +kernel) rfl, big_of 224 (by decide +kernel) rfl⟩
theorem lkL_107 : LKm RL 107 mX9_share := Or.inl (big_of 682 (by decide +kernel) rfl)
theorem lkX9_252 : LKm RX9 252 mX9_ordersAround := Or.inl (big_of 686 (by decide +kernel) rfl)
theorem lkX9_258 : LKm RX9 258 mX9_fraction := Or.inl (big_of 692 (by decide +kernel) rfl)
theorem lkX9_328 : LKm RX9 328 mX9_commonDivisor := Or.inl (big_of 695 (by decide +kernel) rfl)
theorem lkL_112 : LKm RL 112 mX9_rests := Or.inl (big_of 698 (by decide +kernel) rfl)
theorem lkX9_262 : LKm RX9 262 mX9_firstRests := Or.inl (big_of 702 (by decide +kernel) rfl)
theorem lkX9_315 : LKm RX9 315 mX9_lossOf := Or.inl (big_of 706 (by decide +kernel) rfl)
theorem lkX9_322 : LKm RX9 322 mX9_behindChoice := Or.inl (big_of 710 (by decide +kernel) rfl)
theorem lkX9_325 : LKj RX9 325 Lib.Math.abs.name (Cond.code Lib.Math.abs.name Lib.Math.abs.code 1 (some .int)) := ⟨big_of 714 (by decide +kernel) rfl, big_of 715 (by decide +kernel) rfl, big_of 716 (by decide +kernel) rfl⟩
theorem lkX9_319 : LKm RX9 319 mX9_priceOf := Or.inl (big_of 717 (by decide +kernel) rfl)
theorem lkX9_266 : LKm RX9 266 mX9_secondRests := Or.inl (big_of 720 (by decide +kernel) rfl)
theorem lkL_117 : LKm RL 117 mX9_weak := Or.inl (big_of 724 (by decide +kernel) rfl)
theorem lkX9_269 : LKm RX9 269 mX9_tellChances := Or.inl (big_of 728 (by decide +kernel) rfl)
theorem lkL_124 : LKm RL 124 mX9_seed := Or.inl (big_of 732 (by decide +kernel) rfl)
theorem lkL_129 : LKm RL 129 mX9_evenings := Or.inl (big_of 736 (by decide +kernel) rfl)
theorem lkL_133 : LKm RL 133 mX9_keep := Or.inl (big_of 743 (by decide +kernel) rfl)
theorem lkL_137 : LKm RL 137 mX9_again := Or.inl (big_of 747 (by decide +kernel) rfl)
theorem lkX9_291 : LKm RX9 291 mX6_holds := Or.inl (big_of 751 (by decide +kernel) rfl)
theorem lkL_141 : LKm RL 141 mX9_count := Or.inl (big_of 755 (by decide +kernel) rfl)
theorem lkL_17 : LKm RL 17 mX10_write := Or.inl (big_of 869 (by decide +kernel) rfl)
theorem lkX10_74 : LKm RX10 74 mX10_in := Or.inl (big_of 874 (by decide +kernel) rfl)
theorem lkL_22 : LKm RL 22 mX10_wipe := Or.inl (big_of 877 (by decide +kernel) rfl)
theorem lkL_26 : LKm RL 26 mX10_fault := Or.inl (big_of 881 (by decide +kernel) rfl)
theorem lkX10_107 : LKm RX10 107 mX10_readText := Or.inl (big_of 885 (by decide +kernel) rfl)
theorem lkX10_99 : LKm RX10 99 mX10_readPart := Or.inl (big_of 889 (by decide +kernel) rfl)
theorem lkX10_103 : LKm RX10 103 mX10_figureOf := Or.inl (big_of 893 (by decide +kernel) rfl)
theorem lkX10_89 : LKm RX10 89 mX10_has := Or.inl (big_of 898 (by decide +kernel) rfl)
theorem lkL_30 : LKm RL 30 mX10_room := Or.inl (big_of 901 (by decide +kernel) rfl)
theorem lkX10_120 : LKm RX10 120 mX10_made := Or.inl (big_of 905 (by decide +kernel) rfl)
theorem lkX10_140 : LKm RX10 140 mX10_stepped := Or.inl (big_of 909 (by decide +kernel) rfl)
theorem lkX10_133 : LKm RX10 133 mX10_stateIn := Or.inl (big_of 913 (by decide +kernel) rfl)
theorem lkX10_136 : LKm RX10 136 mX10_with := Or.inl (big_of 917 (by decide +kernel) rfl)
theorem lkL_35 : LKm RL 35 mX10_thing := Or.inl (big_of 921 (by decide +kernel) rfl)
theorem lkX10_143 : LKm RX10 143 mX10_isThing := Or.inl (big_of 925 (by decide +kernel) rfl)
theorem lkL_39 : LKm RL 39 mX10_button := Or.inl (big_of 929 (by decide +kernel) rfl)
theorem lkX10_147 : LKm RX10 147 mX10_isButton := Or.inl (big_of 933 (by decide +kernel) rfl)
theorem lkL_43 : LKm RL 43 mX10_press := Or.inl (big_of 937 (by decide +kernel) rfl)
theorem lkX10_153 : LKm RX10 153 mX10_keepAct := Or.inl (big_of 941 (by decide +kernel) rfl)
theorem lkX10_156 : LKm RX10 156 mX10_figuresOf := Or.inl (big_of 945 (by decide +kernel) rfl)
theorem lkL_47 : LKm RL 47 mX10_miss := Or.inl (big_of 949 (by decide +kernel) rfl)
theorem lkL_51 : LKm RL 51 mX10_step := Or.inl (big_of 953 (by decide +kernel) rfl)
theorem lkL_55 : LKm RL 55 mX10_find := Or.inl (big_of 957 (by decide +kernel) rfl)
theorem lkL_59 : LKm RL 59 mX10_undo := Or.inl (big_of 961 (by decide +kernel) rfl)
theorem lkL_63 : LKm RL 63 mX10_after := Or.inl (big_of 965 (by decide +kernel) rfl)
theorem lkX10_162 : LKm RX10 162 mX10_isRow := Or.inl (big_of 969 (by decide +kernel) rfl)
theorem lkX10_159 : LKm RX10 159 mX10_tenTo := Or.inl (big_of 972 (by decide +kernel) rfl)
theorem lkX10_166 : LKm RX10 166 mX10_afterRow := Or.inl (big_of 975 (by decide +kernel) rfl)
theorem lkL_67 : LKm RL 67 mX10_all := Or.inl (big_of 979 (by decide +kernel) rfl)
theorem lkL_72 : LKm RL 72 mX10_fewest := Or.inl (big_of 983 (by decide +kernel) rfl)
theorem lkX10_169 : LKm RX10 169 mX10_messOf := Or.inl (big_of 987 (by decide +kernel) rfl)
theorem lkX10_172 : LKm RX10 172 mX10_every := Or.inl (big_of 991 (by decide +kernel) rfl)
theorem lkX10_175 : LKm RX10 175 mX10_layFar := Or.inl (big_of 995 (by decide +kernel) rfl)
theorem lkL_76 : LKm RL 76 mX10_worst := Or.inl (big_of 999 (by decide +kernel) rfl)
theorem lkX10_178 : LKm RX10 178 mX10_reached := Or.inl (big_of 1003 (by decide +kernel) rfl)
theorem lkL_80 : LKm RL 80 mX10_sure := Or.inl (big_of 1007 (by decide +kernel) rfl)
theorem lkX10_181 : LKm RX10 181 mX10_isSure := Or.inl (big_of 1011 (by decide +kernel) rfl)
theorem lkL_84 : LKm RL 84 mX10_needed := Or.inl (big_of 1015 (by decide +kernel) rfl)
theorem lkX10_185 : LKm RX10 185 mX10_ones := Or.inl (big_of 1019 (by decide +kernel) rfl)
theorem lkL_88 : LKm RL 88 mX10_judge := Or.inl (big_of 1022 (by decide +kernel) rfl)
theorem lkL_93 : LKm RL 93 mX10_see := Or.inl (big_of 1026 (by decide +kernel) rfl)
theorem lkL_97 : LKm RL 97 mX10_unsee := Or.inl (big_of 1031 (by decide +kernel) rfl)
theorem lkL_101 : LKm RL 101 mX10_may := Or.inl (big_of 1035 (by decide +kernel) rfl)
theorem lkX10_198 : LKm RX10 198 mX10_mayBe := Or.inl (big_of 1040 (by decide +kernel) rfl)
theorem lkX10_193 : LKm RX10 193 mX10_lightsOf := Or.inl (big_of 1044 (by decide +kernel) rfl)
theorem lkL_106 : LKm RL 106 mX10_tells := Or.inl (big_of 1048 (by decide +kernel) rfl)
theorem lkX10_201 : LKm RX10 201 mX10_greatest := Or.inl (big_of 1052 (by decide +kernel) rfl)
theorem lkL_111 : LKm RL 111 mX10_share := Or.inl (big_of 1056 (by decide +kernel) rfl)
theorem lkX10_204 : LKm RX10 204 mX10_factorial := Or.inl (big_of 1060 (by decide +kernel) rfl)
theorem lkX10_207 : LKm RX10 207 mX10_common := Or.inl (big_of 1063 (by decide +kernel) rfl)
theorem lkL_116 : LKm RL 116 mX10_rests := Or.inl (big_of 1066 (by decide +kernel) rfl)
theorem lkX10_217 : LKm RX10 217 mX10_isRest := Or.inl (big_of 1070 (by decide +kernel) rfl)
theorem lkX10_213 : LKm RX10 213 mX10_loses := Or.inl (big_of 1074 (by decide +kernel) rfl)
theorem lkX10_210 : LKm RX10 210 mX10_apart := Or.inl (big_of 1078 (by decide +kernel) rfl)
theorem lkL_121 : LKm RL 121 mX10_weak := Or.inl (big_of 1081 (by decide +kernel) rfl)
theorem lkL_128 : LKm RL 128 mX10_seed := Or.inl (big_of 1087 (by decide +kernel) rfl)
theorem lkL_132 : LKm RL 132 mX10_evenings := Or.inl (big_of 1091 (by decide +kernel) rfl)
theorem lkL_136 : LKm RL 136 mX10_keep := Or.inl (big_of 1099 (by decide +kernel) rfl)
theorem lkL_140 : LKm RL 140 mX10_again := Or.inl (big_of 1103 (by decide +kernel) rfl)
theorem lkL_144 : LKm RL 144 mX10_count := Or.inl (big_of 1107 (by decide +kernel) rfl)
theorem lkX0_38 : LKm RX0 38 mX9_at := Or.inr ⟨"FiveRemotes", nest_of 231 (by decide +kernel) rfl⟩
theorem lkX0_31 : LKm RX0 31 mX9_put := Or.inr ⟨"FiveRemotes", nest_of 238 (by decide +kernel) rfl⟩
theorem lkX2_64 : LKm RX2 64 mX9_at := Or.inr ⟨"FiveRemotes", nest_of 261 (by decide +kernel) rfl⟩
theorem lkX2_51 : LKm RX2 51 mX9_put := Or.inr ⟨"FiveRemotes", nest_of 262 (by decide +kernel) rfl⟩
theorem lkX1_44 : LKm RX1 44 mX9_at := Or.inr ⟨"FiveRemotes", nest_of 292 (by decide +kernel) rfl⟩
theorem lkX1_48 : LKm RX1 48 mX9_put := Or.inr ⟨"FiveRemotes", nest_of 293 (by decide +kernel) rfl⟩
theorem lkX8_19 : LKm RX8 19 mX9_put := Or.inr ⟨"FiveRemotes", nest_of 350 (by decide +kernel) rfl⟩
theorem lkX8_23 : LKm RX8 23 mX9_at := Or.inr ⟨"FiveRemotes", nest_of 375 (by decide +kernel) rfl⟩
theorem lkX3_61 : LKm RX3 61 mX9_at := Or.inr ⟨"FiveRemotes", nest_of 395 (by decide +kernel) rfl⟩
theorem lkX6_46 : LKm RX6 46 mX9_at := Or.inr ⟨"FiveRemotes", nest_of 445 (by decide +kernel) rfl⟩
theorem lkX6_38 : LKm RX6 38 mX9_put := Or.inr ⟨"FiveRemotes", nest_of 446 (by decide +kernel) rfl⟩
theorem lkX4_19 : LKm RX4 19 mX9_put := Or.inr ⟨"FiveRemotes", nest_of 490 (by decide +kernel) rfl⟩
theorem lkX4_23 : LKm RX4 23 mX9_at := Or.inr ⟨"FiveRemotes", nest_of 499 (by decide +kernel) rfl⟩
theorem lkX5_28 : LKm RX5 28 mX9_put := Or.inr ⟨"FiveRemotes", nest_of 594 (by decide +kernel) rfl⟩
theorem lkX5_43 : LKm RX5 43 mX9_at := Or.inr ⟨"FiveRemotes", nest_of 608 (by decide +kernel) rfl⟩
theorem ini_Math : Cond.initialized "java/lang/Math" ∈ lw_big := big_of 55 (by decide +kernel) rfl
theorem flX8_9 : FLk RX8 9 8 0 true (.array .int) := ⟨RX8, TX8, 2, tyX8, rfl, by decide, inX8, tyX8_ok, nmX8, rfl, by decide +kernel, Or.inl (big_of 74 (by decide +kernel) rfl)⟩
theorem flX8_15 : FLk RX8 15 8 1 false .int := ⟨RX8, TX8, 2, tyX8, rfl, by decide, inX8, tyX8_ok, nmX8, rfl, by decide +kernel, Or.inl (big_of 75 (by decide +kernel) rfl)⟩
theorem flX0_27 : FLk RX0 27 0 0 false .int := ⟨RX0, TX0, 7, tyX0, rfl, by decide, inX0, tyX0_ok, nmX0, rfl, by decide +kernel, Or.inl (big_of 94 (by decide +kernel) rfl)⟩
theorem flX0_35 : FLk RX0 35 0 1 false .int := ⟨RX0, TX0, 7, tyX0, rfl, by decide, inX0, tyX0_ok, nmX0, rfl, by decide +kernel, Or.inl (big_of 98 (by decide +kernel) rfl)⟩
theorem flX0_9 : FLk RX0 9 0 2 true (.array .int) := ⟨RX0, TX0, 7, tyX0, rfl, by decide, inX0, tyX0_ok, nmX0, rfl, by decide +kernel, Or.inl (big_of 100 (by decide +kernel) rfl)⟩
theorem flX0_15 : FLk RX0 15 0 3 true (.array .int) := ⟨RX0, TX0, 7, tyX0, rfl, by decide, inX0, tyX0_ok, nmX0, rfl, by decide +kernel, Or.inl (big_of 103 (by decide +kernel) rfl)⟩
theorem flX0_18 : FLk RX0 18 0 4 true (.array .int) := ⟨RX0, TX0, 7, tyX0, rfl, by decide, inX0, tyX0_ok, nmX0, rfl, by decide +kernel, Or.inl (big_of 105 (by decide +kernel) rfl)⟩
theorem flX0_21 : FLk RX0 21 0 5 true (.array .int) := ⟨RX0, TX0, 7, tyX0, rfl, by decide, inX0, tyX0_ok, nmX0, rfl, by decide +kernel, Or.inl (big_of 108 (by decide +kernel) rfl)⟩
theorem flX0_24 : FLk RX0 24 0 6 true (.array .int) := ⟨RX0, TX0, 7, tyX0, rfl, by decide, inX0, tyX0_ok, nmX0, rfl, by decide +kernel, Or.inl (big_of 111 (by decide +kernel) rfl)⟩
theorem flX3_12 : FLk RX3 12 3 0 true (.object "FiveRemotes$Parts") := ⟨RX3, TX3, 1, tyX3, rfl, by decide, inX3, tyX3_ok, nmX3, rfl, by decide +kernel, Or.inl (big_of 129 (by decide +kernel) rfl)⟩
theorem flX2_12 : FLk RX2 12 2 0 true (.object "FiveRemotes$Parts") := ⟨RX2, TX2, 5, tyX2, rfl, by decide, inX2, tyX2_ok, nmX2, rfl, by decide +kernel, Or.inl (big_of 142 (by decide +kernel) rfl)⟩
theorem flX2_18 : FLk RX2 18 2 1 true (.array .int) := ⟨RX2, TX2, 5, tyX2, rfl, by decide, inX2, tyX2_ok, nmX2, rfl, by decide +kernel, Or.inl (big_of 144 (by decide +kernel) rfl)⟩
theorem flX2_22 : FLk RX2 22 2 2 true (.array .int) := ⟨RX2, TX2, 5, tyX2, rfl, by decide, inX2, tyX2_ok, nmX2, rfl, by decide +kernel, Or.inl (big_of 145 (by decide +kernel) rfl)⟩
theorem flX2_25 : FLk RX2 25 2 3 true (.array .int) := ⟨RX2, TX2, 5, tyX2, rfl, by decide, inX2, tyX2_ok, nmX2, rfl, by decide +kernel, Or.inl (big_of 146 (by decide +kernel) rfl)⟩
theorem flX2_36 : FLk RX2 36 2 4 false .int := ⟨RX2, TX2, 5, tyX2, rfl, by decide, inX2, tyX2_ok, nmX2, rfl, by decide +kernel, Or.inl (big_of 148 (by decide +kernel) rfl)⟩
theorem flX1_9 : FLk RX1 9 1 0 true (.array .int) := ⟨RX1, TX1, 5, tyX1, rfl, by decide, inX1, tyX1_ok, nmX1, rfl, by decide +kernel, Or.inl (big_of 168 (by decide +kernel) rfl)⟩
theorem flX1_15 : FLk RX1 15 1 1 true (.array .int) := ⟨RX1, TX1, 5, tyX1, rfl, by decide, inX1, tyX1_ok, nmX1, rfl, by decide +kernel, Or.inl (big_of 169 (by decide +kernel) rfl)⟩
theorem flX1_18 : FLk RX1 18 1 2 true (.array .int) := ⟨RX1, TX1, 5, tyX1, rfl, by decide, inX1, tyX1_ok, nmX1, rfl, by decide +kernel, Or.inl (big_of 170 (by decide +kernel) rfl)⟩
theorem flX1_21 : FLk RX1 21 1 3 true (.array .int) := ⟨RX1, TX1, 5, tyX1, rfl, by decide, inX1, tyX1_ok, nmX1, rfl, by decide +kernel, Or.inl (big_of 171 (by decide +kernel) rfl)⟩
theorem flX1_56 : FLk RX1 56 1 4 false .int := ⟨RX1, TX1, 5, tyX1, rfl, by decide, inX1, tyX1_ok, nmX1, rfl, by decide +kernel, Or.inl (big_of 172 (by decide +kernel) rfl)⟩
theorem flX4_9 : FLk RX4 9 4 0 true (.array .int) := ⟨RX4, TX4, 2, tyX4, rfl, by decide, inX4, tyX4_ok, nmX4, rfl, by decide +kernel, Or.inl (big_of 190 (by decide +kernel) rfl)⟩
theorem flX4_15 : FLk RX4 15 4 1 false .int := ⟨RX4, TX4, 2, tyX4, rfl, by decide, inX4, tyX4_ok, nmX4, rfl, by decide +kernel, Or.inl (big_of 191 (by decide +kernel) rfl)⟩
theorem flX6_15 : FLk RX6 15 6 0 true (.array .int) := ⟨RX6, TX6, 3, tyX6, rfl, by decide, inX6, tyX6_ok, nmX6, rfl, by decide +kernel, Or.inl (big_of 228 (by decide +kernel) rfl)⟩
theorem flX6_21 : FLk RX6 21 6 1 true (.array .int) := ⟨RX6, TX6, 3, tyX6, rfl, by decide, inX6, tyX6_ok, nmX6, rfl, by decide +kernel, Or.inl (big_of 229 (by decide +kernel) rfl)⟩
theorem flX6_24 : FLk RX6 24 6 2 true (.array .int) := ⟨RX6, TX6, 3, tyX6, rfl, by decide, inX6, tyX6_ok, nmX6, rfl, by decide +kernel, Or.inl (big_of 230 (by decide +kernel) rfl)⟩
theorem flX5_9 : FLk RX5 9 5 0 true (.array .int) := ⟨RX5, TX5, 6, tyX5, rfl, by decide, inX5, tyX5_ok, nmX5, rfl, by decide +kernel, Or.inl (big_of 244 (by decide +kernel) rfl)⟩
theorem flX5_15 : FLk RX5 15 5 1 true (.array .int) := ⟨RX5, TX5, 6, tyX5, rfl, by decide, inX5, tyX5_ok, nmX5, rfl, by decide +kernel, Or.inl (big_of 245 (by decide +kernel) rfl)⟩
theorem flX5_18 : FLk RX5 18 5 2 true (.array .int) := ⟨RX5, TX5, 6, tyX5, rfl, by decide, inX5, tyX5_ok, nmX5, rfl, by decide +kernel, Or.inl (big_of 246 (by decide +kernel) rfl)⟩
theorem flX5_21 : FLk RX5 21 5 3 true (.array .int) := ⟨RX5, TX5, 6, tyX5, rfl, by decide, inX5, tyX5_ok, nmX5, rfl, by decide +kernel, Or.inl (big_of 247 (by decide +kernel) rfl)⟩
theorem flX5_24 : FLk RX5 24 5 4 false .int := ⟨RX5, TX5, 6, tyX5, rfl, by decide, inX5, tyX5_ok, nmX5, rfl, by decide +kernel, Or.inl (big_of 249 (by decide +kernel) rfl)⟩
theorem flX5_32 : FLk RX5 32 5 5 false .int := ⟨RX5, TX5, 6, tyX5, rfl, by decide, inX5, tyX5_ok, nmX5, rfl, by decide +kernel, Or.inl (big_of 251 (by decide +kernel) rfl)⟩
theorem flX9_10 : FLk RX9 10 9 0 true (.object "FiveRemotes$Text") := ⟨RX9, TX9, 13, tyX9, rfl, by decide, inX9, tyX9_ok, nmX9, rfl, by decide +kernel, Or.inl (big_of 343 (by decide +kernel) rfl)⟩
theorem flX9_19 : FLk RX9 19 9 1 true (.object "FiveRemotes$Reader") := ⟨RX9, TX9, 13, tyX9, rfl, by decide, inX9, tyX9_ok, nmX9, rfl, by decide +kernel, Or.inl (big_of 344 (by decide +kernel) rfl)⟩
theorem flX9_26 : FLk RX9 26 9 2 true (.object "FiveRemotes$Plan") := ⟨RX9, TX9, 13, tyX9, rfl, by decide, inX9, tyX9_ok, nmX9, rfl, by decide +kernel, Or.inl (big_of 345 (by decide +kernel) rfl)⟩
theorem flX9_33 : FLk RX9 33 9 3 true (.object "FiveRemotes$Paths") := ⟨RX9, TX9, 13, tyX9, rfl, by decide, inX9, tyX9_ok, nmX9, rfl, by decide +kernel, Or.inl (big_of 346 (by decide +kernel) rfl)⟩
theorem flX9_40 : FLk RX9 40 9 4 true (.object "FiveRemotes$Row") := ⟨RX9, TX9, 13, tyX9, rfl, by decide, inX9, tyX9_ok, nmX9, rfl, by decide +kernel, Or.inl (big_of 347 (by decide +kernel) rfl)⟩
theorem flX9_47 : FLk RX9 47 9 5 true (.object "FiveRemotes$Standing") := ⟨RX9, TX9, 13, tyX9, rfl, by decide, inX9, tyX9_ok, nmX9, rfl, by decide +kernel, Or.inl (big_of 348 (by decide +kernel) rfl)⟩
theorem flX9_56 : FLk RX9 56 9 6 true (.object "FiveRemotes$Shelf") := ⟨RX9, TX9, 13, tyX9, rfl, by decide, inX9, tyX9_ok, nmX9, rfl, by decide +kernel, Or.inl (big_of 349 (by decide +kernel) rfl)⟩
theorem flX9_60 : FLk RX9 60 9 7 true (.object "FiveRemotes$Shelf") := ⟨RX9, TX9, 13, tyX9, rfl, by decide, inX9, tyX9_ok, nmX9, rfl, by decide +kernel, Or.inl (big_of 350 (by decide +kernel) rfl)⟩
theorem flX9_66 : FLk RX9 66 9 8 true (.object "FiveRemotes$Seen") := ⟨RX9, TX9, 13, tyX9, rfl, by decide, inX9, tyX9_ok, nmX9, rfl, by decide +kernel, Or.inl (big_of 351 (by decide +kernel) rfl)⟩
theorem flX9_70 : FLk RX9 70 9 9 true (.array .int) := ⟨RX9, TX9, 13, tyX9, rfl, by decide, inX9, tyX9_ok, nmX9, rfl, by decide +kernel, Or.inl (big_of 352 (by decide +kernel) rfl)⟩
theorem flX9_74 : FLk RX9 74 9 10 true (.array .int) := ⟨RX9, TX9, 13, tyX9, rfl, by decide, inX9, tyX9_ok, nmX9, rfl, by decide +kernel, Or.inl (big_of 353 (by decide +kernel) rfl)⟩
theorem flX9_121 : FLk RX9 121 9 11 false .int := ⟨RX9, TX9, 13, tyX9, rfl, by decide, inX9, tyX9_ok, nmX9, rfl, by decide +kernel, Or.inl (big_of 354 (by decide +kernel) rfl)⟩
theorem flX9_275 : FLk RX9 275 9 12 false .long := ⟨RX9, TX9, 13, tyX9, rfl, by decide, inX9, tyX9_ok, nmX9, rfl, by decide +kernel, Or.inl (big_of 355 (by decide +kernel) rfl)⟩
theorem gsX9_272 : Cond.fieldLink RX9 272 "FiveRemotes" "TENS" "[I" ∈ lw_big := big_of 529 (by decide +kernel) rfl
theorem gsX9_255 : Cond.fieldLink RX9 255 "FiveRemotes" "ORDERS" "[I" ∈ lw_big := big_of 690 (by decide +kernel) rfl
theorem flX10_111 : FLk RX10 111 10 0 false .int := ⟨RX10, TX10, 34, tyX10, rfl, by decide, inX10, tyX10_ok, nmX10, rfl, by decide +kernel, Or.inl (big_of 765 (by decide +kernel) rfl)⟩
theorem flX10_114 : FLk RX10 114 10 1 false .int := ⟨RX10, TX10, 34, tyX10, rfl, by decide, inX10, tyX10_ok, nmX10, rfl, by decide +kernel, Or.inl (big_of 766 (by decide +kernel) rfl)⟩
theorem flX10_68 : FLk RX10 68 10 2 false .int := ⟨RX10, TX10, 34, tyX10, rfl, by decide, inX10, tyX10_ok, nmX10, rfl, by decide +kernel, Or.inl (big_of 767 (by decide +kernel) rfl)⟩
theorem flX10_7 : FLk RX10 7 10 3 true (.array .int) := ⟨RX10, TX10, 34, tyX10, rfl, by decide, inX10, tyX10_ok, nmX10, rfl, by decide +kernel, Or.inl (big_of 768 (by decide +kernel) rfl)⟩
theorem flX10_13 : FLk RX10 13 10 4 true (.array .int) := ⟨RX10, TX10, 34, tyX10, rfl, by decide, inX10, tyX10_ok, nmX10, rfl, by decide +kernel, Or.inl (big_of 769 (by decide +kernel) rfl)⟩
theorem flX10_16 : FLk RX10 16 10 5 true (.array .int) := ⟨RX10, TX10, 34, tyX10, rfl, by decide, inX10, tyX10_ok, nmX10, rfl, by decide +kernel, Or.inl (big_of 770 (by decide +kernel) rfl)⟩
theorem flX10_19 : FLk RX10 19 10 6 true (.array .int) := ⟨RX10, TX10, 34, tyX10, rfl, by decide, inX10, tyX10_ok, nmX10, rfl, by decide +kernel, Or.inl (big_of 771 (by decide +kernel) rfl)⟩
theorem flX10_22 : FLk RX10 22 10 7 true (.array .int) := ⟨RX10, TX10, 34, tyX10, rfl, by decide, inX10, tyX10_ok, nmX10, rfl, by decide +kernel, Or.inl (big_of 772 (by decide +kernel) rfl)⟩
theorem flX10_25 : FLk RX10 25 10 8 true (.array .int) := ⟨RX10, TX10, 34, tyX10, rfl, by decide, inX10, tyX10_ok, nmX10, rfl, by decide +kernel, Or.inl (big_of 773 (by decide +kernel) rfl)⟩
theorem flX10_117 : FLk RX10 117 10 9 false .int := ⟨RX10, TX10, 34, tyX10, rfl, by decide, inX10, tyX10_ok, nmX10, rfl, by decide +kernel, Or.inl (big_of 774 (by decide +kernel) rfl)⟩
theorem flX10_124 : FLk RX10 124 10 10 false .int := ⟨RX10, TX10, 34, tyX10, rfl, by decide, inX10, tyX10_ok, nmX10, rfl, by decide +kernel, Or.inl (big_of 775 (by decide +kernel) rfl)⟩
theorem flX10_127 : FLk RX10 127 10 11 false .int := ⟨RX10, TX10, 34, tyX10, rfl, by decide, inX10, tyX10_ok, nmX10, rfl, by decide +kernel, Or.inl (big_of 776 (by decide +kernel) rfl)⟩
theorem flX10_28 : FLk RX10 28 10 12 true (.array .int) := ⟨RX10, TX10, 34, tyX10, rfl, by decide, inX10, tyX10_ok, nmX10, rfl, by decide +kernel, Or.inl (big_of 777 (by decide +kernel) rfl)⟩
theorem flX10_31 : FLk RX10 31 10 13 true (.array .int) := ⟨RX10, TX10, 34, tyX10, rfl, by decide, inX10, tyX10_ok, nmX10, rfl, by decide +kernel, Or.inl (big_of 778 (by decide +kernel) rfl)⟩
theorem flX10_34 : FLk RX10 34 10 14 true (.array .int) := ⟨RX10, TX10, 34, tyX10, rfl, by decide, inX10, tyX10_ok, nmX10, rfl, by decide +kernel, Or.inl (big_of 779 (by decide +kernel) rfl)⟩
theorem flX10_93 : FLk RX10 93 10 15 false .int := ⟨RX10, TX10, 34, tyX10, rfl, by decide, inX10, tyX10_ok, nmX10, rfl, by decide +kernel, Or.inl (big_of 780 (by decide +kernel) rfl)⟩
theorem flX10_96 : FLk RX10 96 10 16 false .int := ⟨RX10, TX10, 34, tyX10, rfl, by decide, inX10, tyX10_ok, nmX10, rfl, by decide +kernel, Or.inl (big_of 781 (by decide +kernel) rfl)⟩
theorem flX10_37 : FLk RX10 37 10 17 true (.array .int) := ⟨RX10, TX10, 34, tyX10, rfl, by decide, inX10, tyX10_ok, nmX10, rfl, by decide +kernel, Or.inl (big_of 782 (by decide +kernel) rfl)⟩
theorem flX10_78 : FLk RX10 78 10 18 false .int := ⟨RX10, TX10, 34, tyX10, rfl, by decide, inX10, tyX10_ok, nmX10, rfl, by decide +kernel, Or.inl (big_of 783 (by decide +kernel) rfl)⟩
theorem flX10_84 : FLk RX10 84 10 19 false .int := ⟨RX10, TX10, 34, tyX10, rfl, by decide, inX10, tyX10_ok, nmX10, rfl, by decide +kernel, Or.inl (big_of 784 (by decide +kernel) rfl)⟩
theorem flX10_81 : FLk RX10 81 10 20 false .int := ⟨RX10, TX10, 34, tyX10, rfl, by decide, inX10, tyX10_ok, nmX10, rfl, by decide +kernel, Or.inl (big_of 785 (by decide +kernel) rfl)⟩
theorem flX10_130 : FLk RX10 130 10 21 false .int := ⟨RX10, TX10, 34, tyX10, rfl, by decide, inX10, tyX10_ok, nmX10, rfl, by decide +kernel, Or.inl (big_of 786 (by decide +kernel) rfl)⟩
theorem flX10_150 : FLk RX10 150 10 22 false .int := ⟨RX10, TX10, 34, tyX10, rfl, by decide, inX10, tyX10_ok, nmX10, rfl, by decide +kernel, Or.inl (big_of 787 (by decide +kernel) rfl)⟩
theorem flX10_40 : FLk RX10 40 10 23 true (.array .int) := ⟨RX10, TX10, 34, tyX10, rfl, by decide, inX10, tyX10_ok, nmX10, rfl, by decide +kernel, Or.inl (big_of 788 (by decide +kernel) rfl)⟩
theorem flX10_43 : FLk RX10 43 10 24 true (.array .int) := ⟨RX10, TX10, 34, tyX10, rfl, by decide, inX10, tyX10_ok, nmX10, rfl, by decide +kernel, Or.inl (big_of 789 (by decide +kernel) rfl)⟩
theorem flX10_190 : FLk RX10 190 10 25 false .int := ⟨RX10, TX10, 34, tyX10, rfl, by decide, inX10, tyX10_ok, nmX10, rfl, by decide +kernel, Or.inl (big_of 790 (by decide +kernel) rfl)⟩
theorem flX10_46 : FLk RX10 46 10 26 true (.array .int) := ⟨RX10, TX10, 34, tyX10, rfl, by decide, inX10, tyX10_ok, nmX10, rfl, by decide +kernel, Or.inl (big_of 791 (by decide +kernel) rfl)⟩
theorem flX10_49 : FLk RX10 49 10 27 true (.array .int) := ⟨RX10, TX10, 34, tyX10, rfl, by decide, inX10, tyX10_ok, nmX10, rfl, by decide +kernel, Or.inl (big_of 792 (by decide +kernel) rfl)⟩
theorem flX10_52 : FLk RX10 52 10 28 true (.array .int) := ⟨RX10, TX10, 34, tyX10, rfl, by decide, inX10, tyX10_ok, nmX10, rfl, by decide +kernel, Or.inl (big_of 793 (by decide +kernel) rfl)⟩
theorem flX10_55 : FLk RX10 55 10 29 true (.array .int) := ⟨RX10, TX10, 34, tyX10, rfl, by decide, inX10, tyX10_ok, nmX10, rfl, by decide +kernel, Or.inl (big_of 794 (by decide +kernel) rfl)⟩
theorem flX10_58 : FLk RX10 58 10 30 true (.array .int) := ⟨RX10, TX10, 34, tyX10, rfl, by decide, inX10, tyX10_ok, nmX10, rfl, by decide +kernel, Or.inl (big_of 795 (by decide +kernel) rfl)⟩
theorem flX10_225 : FLk RX10 225 10 31 false .long := ⟨RX10, TX10, 34, tyX10, rfl, by decide, inX10, tyX10_ok, nmX10, rfl, by decide +kernel, Or.inl (big_of 796 (by decide +kernel) rfl)⟩
theorem flX10_61 : FLk RX10 61 10 32 true (.array .boolean) := ⟨RX10, TX10, 34, tyX10, rfl, by decide, inX10, tyX10_ok, nmX10, rfl, by decide +kernel, Or.inl (big_of 797 (by decide +kernel) rfl)⟩
theorem flX10_65 : FLk RX10 65 10 33 true (.array .int) := ⟨RX10, TX10, 34, tyX10, rfl, by decide, inX10, tyX10_ok, nmX10, rfl, by decide +kernel, Or.inl (big_of 798 (by decide +kernel) rfl)⟩
theorem flX3_18 : FLk RX3 18 0 0 false .int := ⟨RX0, TX0, 7, tyX0, rfl, by decide, inX0, tyX0_ok, nmX0, rfl, by decide +kernel, Or.inr ⟨"FiveRemotes", nest_of 50 (by decide +kernel) rfl⟩⟩
theorem flX2_32 : FLk RX2 32 0 0 false .int := ⟨RX0, TX0, 7, tyX0, rfl, by decide, inX0, tyX0_ok, nmX0, rfl, by decide +kernel, Or.inr ⟨"FiveRemotes", nest_of 51 (by decide +kernel) rfl⟩⟩
theorem flX3_22 : FLk RX3 22 0 1 false .int := ⟨RX0, TX0, 7, tyX0, rfl, by decide, inX0, tyX0_ok, nmX0, rfl, by decide +kernel, Or.inr ⟨"FiveRemotes", nest_of 52 (by decide +kernel) rfl⟩⟩
theorem flX2_55 : FLk RX2 55 0 1 false .int := ⟨RX0, TX0, 7, tyX0, rfl, by decide, inX0, tyX0_ok, nmX0, rfl, by decide +kernel, Or.inr ⟨"FiveRemotes", nest_of 54 (by decide +kernel) rfl⟩⟩
theorem flX3_57 : FLk RX3 57 0 2 true (.array .int) := ⟨RX0, TX0, 7, tyX0, rfl, by decide, inX0, tyX0_ok, nmX0, rfl, by decide +kernel, Or.inr ⟨"FiveRemotes", nest_of 56 (by decide +kernel) rfl⟩⟩
theorem flX2_93 : FLk RX2 93 0 2 true (.array .int) := ⟨RX0, TX0, 7, tyX0, rfl, by decide, inX0, tyX0_ok, nmX0, rfl, by decide +kernel, Or.inr ⟨"FiveRemotes", nest_of 57 (by decide +kernel) rfl⟩⟩
theorem flX2_87 : FLk RX2 87 0 3 true (.array .int) := ⟨RX0, TX0, 7, tyX0, rfl, by decide, inX0, tyX0_ok, nmX0, rfl, by decide +kernel, Or.inr ⟨"FiveRemotes", nest_of 59 (by decide +kernel) rfl⟩⟩
theorem flX2_61 : FLk RX2 61 0 4 true (.array .int) := ⟨RX0, TX0, 7, tyX0, rfl, by decide, inX0, tyX0_ok, nmX0, rfl, by decide +kernel, Or.inr ⟨"FiveRemotes", nest_of 61 (by decide +kernel) rfl⟩⟩
theorem flX9_149 : FLk RX9 149 0 4 true (.array .int) := ⟨RX0, TX0, 7, tyX0, rfl, by decide, inX0, tyX0_ok, nmX0, rfl, by decide +kernel, Or.inr ⟨"FiveRemotes", nest_of 62 (by decide +kernel) rfl⟩⟩
theorem flX2_71 : FLk RX2 71 0 5 true (.array .int) := ⟨RX0, TX0, 7, tyX0, rfl, by decide, inX0, tyX0_ok, nmX0, rfl, by decide +kernel, Or.inr ⟨"FiveRemotes", nest_of 64 (by decide +kernel) rfl⟩⟩
theorem flX9_156 : FLk RX9 156 0 5 true (.array .int) := ⟨RX0, TX0, 7, tyX0, rfl, by decide, inX0, tyX0_ok, nmX0, rfl, by decide +kernel, Or.inr ⟨"FiveRemotes", nest_of 65 (by decide +kernel) rfl⟩⟩
theorem flX2_68 : FLk RX2 68 0 6 true (.array .int) := ⟨RX0, TX0, 7, tyX0, rfl, by decide, inX0, tyX0_ok, nmX0, rfl, by decide +kernel, Or.inr ⟨"FiveRemotes", nest_of 67 (by decide +kernel) rfl⟩⟩
theorem flX9_159 : FLk RX9 159 0 6 true (.array .int) := ⟨RX0, TX0, 7, tyX0, rfl, by decide, inX0, tyX0_ok, nmX0, rfl, by decide +kernel, Or.inr ⟨"FiveRemotes", nest_of 68 (by decide +kernel) rfl⟩⟩
theorem flX9_105 : FLk RX9 105 3 0 true (.object "FiveRemotes$Parts") := ⟨RX3, TX3, 1, tyX3, rfl, by decide, inX3, tyX3_ok, nmX3, rfl, by decide +kernel, Or.inr ⟨"FiveRemotes", nest_of 85 (by decide +kernel) rfl⟩⟩
theorem flX9_146 : FLk RX9 146 2 0 true (.object "FiveRemotes$Parts") := ⟨RX2, TX2, 5, tyX2, rfl, by decide, inX2, tyX2_ok, nmX2, rfl, by decide +kernel, Or.inr ⟨"FiveRemotes", nest_of 98 (by decide +kernel) rfl⟩⟩
theorem flX1_30 : FLk RX1 30 2 4 false .int := ⟨RX2, TX2, 5, tyX2, rfl, by decide, inX2, tyX2_ok, nmX2, rfl, by decide +kernel, Or.inr ⟨"FiveRemotes", nest_of 102 (by decide +kernel) rfl⟩⟩
theorem flX5_35 : FLk RX5 35 2 4 false .int := ⟨RX2, TX2, 5, tyX2, rfl, by decide, inX2, tyX2_ok, nmX2, rfl, by decide +kernel, Or.inr ⟨"FiveRemotes", nest_of 104 (by decide +kernel) rfl⟩⟩
theorem flX4_41 : FLk RX4 41 2 4 false .int := ⟨RX2, TX2, 5, tyX2, rfl, by decide, inX2, tyX2_ok, nmX2, rfl, by decide +kernel, Or.inr ⟨"FiveRemotes", nest_of 105 (by decide +kernel) rfl⟩⟩
theorem flX6_33 : FLk RX6 33 7 0 false .int := ⟨RX7, TX7, 3, tyX7, rfl, by decide, inX7, tyX7_ok, nmX7, rfl, by decide +kernel, Or.inr ⟨"FiveRemotes", nest_of 158 (by decide +kernel) rfl⟩⟩
theorem flX9_112 : FLk RX9 112 7 0 false .int := ⟨RX7, TX7, 3, tyX7, rfl, by decide, inX7, tyX7_ok, nmX7, rfl, by decide +kernel, Or.inr ⟨"FiveRemotes", nest_of 159 (by decide +kernel) rfl⟩⟩
theorem flX6_42 : FLk RX6 42 7 1 false .int := ⟨RX7, TX7, 3, tyX7, rfl, by decide, inX7, tyX7_ok, nmX7, rfl, by decide +kernel, Or.inr ⟨"FiveRemotes", nest_of 160 (by decide +kernel) rfl⟩⟩
theorem flX9_116 : FLk RX9 116 7 1 false .int := ⟨RX7, TX7, 3, tyX7, rfl, by decide, inX7, tyX7_ok, nmX7, rfl, by decide +kernel, Or.inr ⟨"FiveRemotes", nest_of 161 (by decide +kernel) rfl⟩⟩
theorem flX6_44 : FLk RX6 44 7 2 false .int := ⟨RX7, TX7, 3, tyX7, rfl, by decide, inX7, tyX7_ok, nmX7, rfl, by decide +kernel, Or.inr ⟨"FiveRemotes", nest_of 162 (by decide +kernel) rfl⟩⟩
theorem flX9_119 : FLk RX9 119 7 2 false .int := ⟨RX7, TX7, 3, tyX7, rfl, by decide, inX7, tyX7_ok, nmX7, rfl, by decide +kernel, Or.inr ⟨"FiveRemotes", nest_of 163 (by decide +kernel) rfl⟩⟩
theorem flX9_243 : FLk RX9 243 5 3 true (.array .int) := ⟨RX5, TX5, 6, tyX5, rfl, by decide, inX5, tyX5_ok, nmX5, rfl, by decide +kernel, Or.inr ⟨"FiveRemotes", nest_of 203 (by decide +kernel) rfl⟩⟩
theorem flX9_229 : FLk RX9 229 5 4 false .int := ⟨RX5, TX5, 6, tyX5, rfl, by decide, inX5, tyX5_ok, nmX5, rfl, by decide +kernel, Or.inr ⟨"FiveRemotes", nest_of 205 (by decide +kernel) rfl⟩⟩
theorem flX9_240 : FLk RX9 240 5 5 false .int := ⟨RX5, TX5, 6, tyX5, rfl, by decide, inX5, tyX5_ok, nmX5, rfl, by decide +kernel, Or.inr ⟨"FiveRemotes", nest_of 207 (by decide +kernel) rfl⟩⟩
theorem kcX9_279 : Cond.constantLong RX9 279 6364136223846793005 ∈ lw_big := big_of 740 (by decide +kernel) rfl
theorem kcX9_281 : Cond.constantLong RX9 281 1442695040888963407 ∈ lw_big := big_of 741 (by decide +kernel) rfl
theorem kcX9_283 : Cond.constantLong RX9 283 7 ∈ lw_big := big_of 742 (by decide +kernel) rfl
theorem kcX10_72 : Cond.constantLong RX10 72 255 ∈ lw_big := big_of 873 (by decide +kernel) rfl
theorem kcX10_87 : Cond.constantLong RX10 87 9 ∈ lw_big := big_of 897 (by decide +kernel) rfl
theorem kcX10_188 : Cond.constantLong RX10 188 15 ∈ lw_big := big_of 1030 (by decide +kernel) rfl
theorem kcX10_196 : Cond.constantLong RX10 196 2 ∈ lw_big := big_of 1039 (by decide +kernel) rfl
theorem kcX10_221 : Cond.constantLong RX10 221 6 ∈ lw_big := big_of 1085 (by decide +kernel) rfl
theorem kcX10_223 : Cond.constantLong RX10 223 10 ∈ lw_big := big_of 1086 (by decide +kernel) rfl
theorem kcX10_229 : Cond.constantLong RX10 229 30 ∈ lw_big := big_of 1095 (by decide +kernel) rfl
theorem kcX10_231 : Cond.constantLong RX10 231 6364136223846793005 ∈ lw_big := big_of 1096 (by decide +kernel) rfl
theorem kcX10_233 : Cond.constantLong RX10 233 1442695040888963407 ∈ lw_big := big_of 1097 (by decide +kernel) rfl
theorem kcX10_235 : Cond.constantLong RX10 235 7 ∈ lw_big := big_of 1098 (by decide +kernel) rfl
theorem kcL_122 : Cond.constantLong RL 122 4294967295 ∈ lw_big := big_of 1111 (by decide +kernel) rfl
theorem kcJ6_265 : Cond.constant RJ6 265 1431655765 ∈ lw_big := big_of 619 (by decide +kernel) rfl
theorem kcJ6_266 : Cond.constant RJ6 266 858993459 ∈ lw_big := big_of 620 (by decide +kernel) rfl
theorem kcJ6_267 : Cond.constant RJ6 267 252645135 ∈ lw_big := big_of 621 (by decide +kernel) rfl
end
section
/-! shapes: the cells of the class and of the reference, in the order in which they are made -/
abbrev shX : Shp := [.inr (9, [(2, 1), (2, 3), (2, 10), (2, 20), (2, 25), (2, 27), (2, 28), (2, 32), (2, 36), (2, 41), (2, 42), (0, 0), (1, 0)]), .inr (8, [(2, 2), (0, 0)]), .inl (0, 44), .inr (3, [(2, 4)]), .inr (0, [(0, 0), (0, 0), (2, 5), (2, 6), (2, 7), (2, 8), (2, 9)]), .inl (0, 4), .inl (0, 4), .inl (0, 6), .inl (0, 6), .inl (0, 6), .inr (2, [(2, 11), (2, 17), (2, 18), (2, 19), (0, 0)]), .inr (0, [(0, 0), (0, 0), (2, 12), (2, 13), (2, 14), (2, 15), (2, 16)]), .inl (0, 4), .inl (0, 4), .inl (0, 6), .inl (0, 6), .inl (0, 6), .inl (0, 256), .inl (0, 256), .inl (0, 1536), .inr (1, [(2, 21), (2, 22), (2, 23), (2, 24), (0, 0)]), .inl (0, 257), .inl (0, 1536), .inl (0, 256), .inl (0, 256), .inr (4, [(2, 26), (0, 0)]), .inl (0, 6), .inr (7, [(0, 0), (0, 0), (0, 0)]), .inr (6, [(2, 29), (2, 30), (2, 31)]), .inl (0, 14), .inl (0, 14), .inl (0, 14), .inr (6, [(2, 33), (2, 34), (2, 35)]), .inl (0, 2), .inl (0, 2), .inl (0, 2), .inr (5, [(2, 37), (2, 38), (2, 39), (2, 40), (0, 0), (0, 0)]), .inl (0, 6), .inl (0, 6), .inl (0, 6), .inl (0, 256), .inl (0, 16), .inl (0, 7), .inr (0, [(0, 0), (0, 0), (2, 44), (2, 45), (2, 46), (2, 47), (2, 48)]), .inl (0, 4), .inl (0, 4), .inl (0, 6), .inl (0, 6), .inl (0, 6)]
abbrev shM : Shp := [.inr (10, [(0, 0), (0, 0), (0, 0), (2, 1), (2, 2), (2, 3), (2, 4), (2, 5), (2, 6), (0, 0), (0, 0), (0, 0), (2, 7), (2, 8), (2, 9), (0, 0), (0, 0), (2, 10), (0, 0), (0, 0), (0, 0), (0, 0), (0, 0), (2, 11), (2, 12), (0, 0), (2, 13), (2, 14), (2, 15), (2, 16), (2, 17), (1, 0), (2, 18), (2, 19)]), .inl (0, 4), .inl (0, 4), .inl (0, 6), .inl (0, 6), .inl (0, 6), .inl (0, 1536), .inl (0, 4), .inl (0, 4), .inl (0, 18), .inl (0, 44), .inl (0, 42), .inl (0, 256), .inl (0, 6), .inl (0, 6), .inl (0, 6), .inl (0, 16), .inl (0, 64), .inl (1, 2), .inl (0, 6)]
abbrev Ri (x : Int32) (s : Mem) : Option Value → Mem → Prop := fun r σ2 => r = some (.int x) ∧ σ2 = s
abbrev Rl (x : Int64) (s : Mem) : Option Value → Mem → Prop := fun r σ2 => r = some (.long x) ∧ σ2 = s
abbrev Rv (s : Mem) : Option Value → Mem → Prop := fun r σ2 => r = none ∧ σ2 = s
theorem iinc_p (x : Int32) : x + Int32.ofInt 1 = x + 1 := congrArg (fun z => x + z) (by decide)
theorem iinc_m (x : Int32) : x + Int32.ofInt (-1) = x - 1 := by rw [Int32.sub_eq_add_neg]; exact congrArg (fun z => x + z) (by decide)
theorem Vj_callVi {sh : Shp} {kd k' : Nat} {M M' : MI} {Post : Option Value → Mem → Prop} {pc q ix a ci N : Nat} {T : u_T} {fs : List (Nat × Nat)} {l : List (Option Value)} {av rest st0 : List Value} {σ σ' : Mem} {x : Int32} (hc : Ct sh k' M' (.ref a :: av) σ (Ri x σ')) (hk : k' + 1 ≤ kd) (hq : sh[a]? = some (.inr (ci, fs))) (hcl : vwCl[ci]? = some (M'.1.cls, T, N)) (hLk : LKm M.1.cls ix M') (hV : MVi M') (hM : MOk M' av.length) (h : decode M.2.1 pc = .ok (.invokevirtual ix, 3)) (hp : pc + 3 = q) (hst : st0 = av.reverse ++ .ref a :: rest) (hcat : (rest.map fun v => v.category).sum ≤ 8) (k : Vj sh kd M Post q l (.int x :: rest) σ') : Vj sh kd M Post pc l st0 σ := Vj_callV hc hk hq hcl hLk hV hM h hp hst hcat (by rintro r σ2 ⟨rfl, rfl⟩; exact k)
theorem Vj_callSi {sh : Shp} {kd k' : Nat} {M M' : MI} {Post : Option Value → Mem → Prop} {pc q ix : Nat} {l : List (Option Value)} {av rest st0 : List Value} {σ σ' : Mem} {x : Int32} (hc : Ct sh k' M' av σ (Ri x σ')) (hk : k' + 1 ≤ kd) (hLk : LKm M.1.cls ix M') (hV : Cond.static M'.1 ∈ lw_big) (hM : MOk M' av.length) (h : decode M.2.1 pc = .ok (.invokestatic ix, 3)) (hp : pc + 3 = q) (hst : st0 = av.reverse ++ rest) (hcat : (rest.map fun v => v.category).sum ≤ 8) (k : Vj sh kd M Post q l (.int x :: rest) σ') : Vj sh kd M Post pc l st0 σ := Vj_callS hc hk hLk hV hM h hp hst hcat (by rintro r σ2 ⟨rfl, rfl⟩; exact k)
theorem Vj_callVl {sh : Shp} {kd k' : Nat} {M M' : MI} {Post : Option Value → Mem → Prop} {pc q ix a ci N : Nat} {T : u_T} {fs : List (Nat × Nat)} {l : List (Option Value)} {av rest st0 : List Value} {σ σ' : Mem} {x : Int64} (hc : Ct sh k' M' (.ref a :: av) σ (Rl x σ')) (hk : k' + 1 ≤ kd) (hq : sh[a]? = some (.inr (ci, fs))) (hcl : vwCl[ci]? = some (M'.1.cls, T, N)) (hLk : LKm M.1.cls ix M') (hV : MVi M') (hM : MOk M' av.length) (h : decode M.2.1 pc = .ok (.invokevirtual ix, 3)) (hp : pc + 3 = q) (hst : st0 = av.reverse ++ .ref a :: rest) (hcat : (rest.map fun v => v.category).sum ≤ 8) (k : Vj sh kd M Post q l (.long x :: rest) σ') : Vj sh kd M Post pc l st0 σ := Vj_callV hc hk hq hcl hLk hV hM h hp hst hcat (by rintro r σ2 ⟨rfl, rfl⟩; exact k)
theorem Vj_callSl {sh : Shp} {kd k' : Nat} {M M' : MI} {Post : Option Value → Mem → Prop} {pc q ix : Nat} {l : List (Option Value)} {av rest st0 : List Value} {σ σ' : Mem} {x : Int64} (hc : Ct sh k' M' av σ (Rl x σ')) (hk : k' + 1 ≤ kd) (hLk : LKm M.1.cls ix M') (hV : Cond.static M'.1 ∈ lw_big) (hM : MOk M' av.length) (h : decode M.2.1 pc = .ok (.invokestatic ix, 3)) (hp : pc + 3 = q) (hst : st0 = av.reverse ++ rest) (hcat : (rest.map fun v => v.category).sum ≤ 8) (k : Vj sh kd M Post q l (.long x :: rest) σ') : Vj sh kd M Post pc l st0 σ := Vj_callS hc hk hLk hV hM h hp hst hcat (by rintro r σ2 ⟨rfl, rfl⟩; exact k)
theorem Vj_callVv {sh : Shp} {kd k' : Nat} {M M' : MI} {Post : Option Value → Mem → Prop} {pc q ix a ci N : Nat} {T : u_T} {fs : List (Nat × Nat)} {l : List (Option Value)} {av rest st0 : List Value} {σ σ' : Mem} (hc : Ct sh k' M' (.ref a :: av) σ (Rv σ')) (hk : k' + 1 ≤ kd) (hq : sh[a]? = some (.inr (ci, fs))) (hcl : vwCl[ci]? = some (M'.1.cls, T, N)) (hLk : LKm M.1.cls ix M') (hV : MVi M') (hM : MOk M' av.length) (h : decode M.2.1 pc = .ok (.invokevirtual ix, 3)) (hp : pc + 3 = q) (hst : st0 = av.reverse ++ .ref a :: rest) (hcat : (rest.map fun v => v.category).sum ≤ 8) (k : Vj sh kd M Post q l (rest) σ') : Vj sh kd M Post pc l st0 σ := Vj_callV hc hk hq hcl hLk hV hM h hp hst hcat (by rintro r σ2 ⟨rfl, rfl⟩; exact k)
theorem Vj_callSv {sh : Shp} {kd k' : Nat} {M M' : MI} {Post : Option Value → Mem → Prop} {pc q ix : Nat} {l : List (Option Value)} {av rest st0 : List Value} {σ σ' : Mem} (hc : Ct sh k' M' av σ (Rv σ')) (hk : k' + 1 ≤ kd) (hLk : LKm M.1.cls ix M') (hV : Cond.static M'.1 ∈ lw_big) (hM : MOk M' av.length) (h : decode M.2.1 pc = .ok (.invokestatic ix, 3)) (hp : pc + 3 = q) (hst : st0 = av.reverse ++ rest) (hcat : (rest.map fun v => v.category).sum ≤ 8) (k : Vj sh kd M Post q l (rest) σ') : Vj sh kd M Post pc l st0 σ := Vj_callS hc hk hLk hV hM h hp hst hcat (by rintro r σ2 ⟨rfl, rfl⟩; exact k)
theorem Vr_iret {sh : Shp} {kd : Nat} {M : MI} {Post : Option Value → Mem → Prop} {pc : Nat} {l : List (Option Value)} {σ : Mem} {v : Int32} {ty : FieldType} (hr : M.2.2.2 = some ty) (hn : narrow ty (.int v) = .int v) (h : decode M.2.1 pc = .ok (.ireturn, 1)) (hP : Post (some (.int v)) σ) : Vj sh kd M Post pc l [.int v] σ := Vj_iret (q := 0) (st := []) hr hn h hP
theorem Vr_lret {sh : Shp} {kd : Nat} {M : MI} {Post : Option Value → Mem → Prop} {pc : Nat} {l : List (Option Value)} {σ : Mem} {v : Int64} (hr : M.2.2.2 = some .long) (h : decode M.2.1 pc = .ok (.lreturn, 1)) (hP : Post (some (.long v)) σ) : Vj sh kd M Post pc l [.long v] σ := Vj_lret (q := 0) (st := []) hr h hP
theorem Vr_vret {sh : Shp} {kd : Nat} {M : MI} {Post : Option Value → Mem → Prop} {pc : Nat} {l : List (Option Value)} {σ : Mem} (hr : M.2.2.2 = none) (h : decode M.2.1 pc = .ok (.return_, 1)) (hP : Post none σ) : Vj sh kd M Post pc l [] σ := Vj_vret (q := 0) (st := []) hr h hP
/-- a switch's way out: x is none of lo .. hi -/
theorem sw_out (lo : Int) (n : Nat) {x : Int32} (h : ∀ j : Nat, j < n → ¬ x.toInt = lo + j) : x.toInt < lo ∨ lo + n - 1 < x.toInt := by
  rcases Int.lt_or_le x.toInt lo with h1 | h1
  · exact Or.inl h1
  · right
    rcases Int.lt_or_le (lo + n - 1) x.toInt with h2 | h2
    · exact h2
    · exact absurd (by omega) (h (x.toInt - lo).toNat (by omega))
theorem toInt_ne {x k : Int32} (h : ¬ x = k) : ¬ x.toInt = k.toInt := fun e => h (Int32.toInt_inj.mp e)
/-- what at answers -/
def rd (n : Nat) (f : Nat → Int32) (i : Int32) : Int32 := if 0 ≤ i ∧ i < nI n then f i.toNatClampNeg else 0
/-- what put leaves -/
def wr (σ : Mem) (q n : Nat) (i x : Int32) : Mem := if 0 ≤ i ∧ i < nI n then uI σ q i.toNatClampNeg x else σ
theorem rd_in {n j : Nat} {f : Nat → Int32} (h : j < n) (hn : n < 2 ^ 31) : rd n f (nI j) = f j := by
  rw [rd, if_pos ⟨nI_pos' (by omega), nI_lt h hn⟩, nI_clamp (by omega)]
theorem wr_in {σ : Mem} {q n j : Nat} {x : Int32} (h : j < n) (hn : n < 2 ^ 31) : wr σ q n (nI j) x = uI σ q j x := by
  rw [wr, if_pos ⟨nI_pos' (by omega), nI_lt h hn⟩, nI_clamp (by omega)]
theorem i_nlt {x y : Int32} (h : ¬ x < y) : y ≤ x := Int32.not_lt.mp h
theorem i_nle {x y : Int32} (h : ¬ x ≤ y) : y < x := Int32.not_le.mp h
theorem at_in {n : Nat} {i : Int32} (hn : n < 2 ^ 31) (h0 : ¬ i < 0) (h1 : ¬ nI n ≤ i) : vp_in i n := by
  obtain ⟨j, hj, rfl⟩ := nI_of h0
  have h2 : ¬ n ≤ j := fun z => h1 (nI_le z hj)
  exact vp_in_nI (by omega) hn
set_option maxRecDepth 100000 in
theorem qX9_at {σ : Mem} {q n : Nat} (hq : shX[q]? = some (.inl (0, n))) (hn : n < 2 ^ 31) (i : Int32) : Ct shX 0 mX9_at [.ref q, .int i] σ (Ri (rd n (σ.1 q) i) σ) := by
  refine Ct.of (by decide) (Nat.le_of_ble_eq_true rfl) (l := [some (.ref q), some (.int i)]) rfl ?_
  refine Vj_aloadn dX9_at_0 rfl rfl rfl ?_
  refine Vj_ifnull dX9_at_1 rfl ?_
  refine Vj_iloadn dX9_at_4 rfl rfl rfl ?_
  refine Vj_if_lt (tgt := 20) dX9_at_5 (by decide) rfl (fun h5 => ?_) (fun h5 => ?_)
  ·
    have hz : ¬ (0 ≤ i ∧ i < nI n) := fun z => absurd h5 (Int32.not_lt.mpr z.1)
    refine Vj_iconst (v := 0) dX9_at_20 rfl (by decide) ?_
    exact Vr_iret rfl rfl dX9_at_21 ⟨by rw [rd, if_neg hz], rfl⟩
  ·
    refine Vj_iloadn dX9_at_8 rfl rfl rfl ?_
    refine Vj_aloadn dX9_at_9 rfl rfl rfl ?_
    refine Vj_alen hq rfl dX9_at_10 rfl ?_
    refine Vj_icmp_ge (tgt := 20) dX9_at_11 (by decide) rfl (fun h11 => ?_) (fun h11 => ?_)
    ·
      have hz : ¬ (0 ≤ i ∧ i < nI n) := fun z => absurd h11 (Int32.not_le.mpr z.2)
      refine Vj_iconst (v := 0) dX9_at_20 rfl (by decide) ?_
      exact Vr_iret rfl rfl dX9_at_21 ⟨by rw [rd, if_neg hz], rfl⟩
    ·
      refine Vj_aloadn dX9_at_14 rfl rfl rfl ?_
      refine Vj_iloadn dX9_at_15 rfl rfl rfl ?_
      refine Vj_iald hq (at_in hn h5 h11) dX9_at_16 rfl ?_
      refine Vj_goto (q := 21) dX9_at_17 (by decide) ?_
      exact Vr_iret rfl rfl dX9_at_21 (⟨by rw [rd, if_pos ⟨i_nlt h5, i_nle h11⟩], rfl⟩)
theorem qX9_atn {σ : Mem} {q n : Nat} (hq : shX[q]? = some (.inl (0, n))) (hn : n < 2 ^ 31) {j : Nat} (hj : j < n) : Ct shX 0 mX9_at [.ref q, .int (nI j)] σ (Ri (σ.1 q j) σ) := by
  have h := qX9_at (σ := σ) hq hn (nI j)
  rwa [rd_in hj hn] at h
set_option maxRecDepth 100000 in
theorem qX9_atTENS {σ : Mem} (i : Int32) : Ct shX 0 mX9_at [.ref 1000, .int i] σ (Ri (rd 7 tTENS i) σ) := by
  refine Ct.of (by decide) (Nat.le_of_ble_eq_true rfl) (l := [some (.ref 1000), some (.int i)]) rfl ?_
  refine Vj_aloadn dX9_at_0 rfl rfl rfl ?_
  refine Vj_ifnull dX9_at_1 rfl ?_
  refine Vj_iloadn dX9_at_4 rfl rfl rfl ?_
  refine Vj_if_lt (tgt := 20) dX9_at_5 (by decide) rfl (fun h5 => ?_) (fun h5 => ?_)
  ·
    have hz : ¬ (0 ≤ i ∧ i < nI 7) := fun z => absurd h5 (Int32.not_lt.mpr z.1)
    refine Vj_iconst (v := 0) dX9_at_20 rfl (by decide) ?_
    exact Vr_iret rfl rfl dX9_at_21 ⟨by rw [rd, if_neg hz], rfl⟩
  ·
    refine Vj_iloadn dX9_at_8 rfl rfl rfl ?_
    refine Vj_aloadn dX9_at_9 rfl rfl rfl ?_
    refine Vj_alenTENS dX9_at_10 rfl ?_
    refine Vj_icmp_ge (tgt := 20) dX9_at_11 (by decide) rfl (fun h11 => ?_) (fun h11 => ?_)
    ·
      have hz : ¬ (0 ≤ i ∧ i < nI 7) := fun z => absurd h11 (Int32.not_le.mpr z.2)
      refine Vj_iconst (v := 0) dX9_at_20 rfl (by decide) ?_
      exact Vr_iret rfl rfl dX9_at_21 ⟨by rw [rd, if_neg hz], rfl⟩
    ·
      refine Vj_aloadn dX9_at_14 rfl rfl rfl ?_
      refine Vj_iloadn dX9_at_15 rfl rfl rfl ?_
      refine Vj_aldTENS (at_in (n := 7) (by decide) h5 h11) dX9_at_16 rfl ?_
      refine Vj_goto (q := 21) dX9_at_17 (by decide) ?_
      exact Vr_iret rfl rfl dX9_at_21 (⟨by rw [rd, if_pos ⟨i_nlt h5, i_nle h11⟩], rfl⟩)
theorem qX9_atTENSn {σ : Mem} {j : Nat} (hj : j < 7) : Ct shX 0 mX9_at [.ref 1000, .int (nI j)] σ (Ri (tTENS j) σ) := by
  have h := qX9_atTENS (σ := σ) (nI j)
  rwa [rd_in hj (by decide)] at h
set_option maxRecDepth 100000 in
theorem qX9_atORDERS {σ : Mem} (i : Int32) : Ct shX 0 mX9_at [.ref 1001, .int i] σ (Ri (rd 7 tORD i) σ) := by
  refine Ct.of (by decide) (Nat.le_of_ble_eq_true rfl) (l := [some (.ref 1001), some (.int i)]) rfl ?_
  refine Vj_aloadn dX9_at_0 rfl rfl rfl ?_
  refine Vj_ifnull dX9_at_1 rfl ?_
  refine Vj_iloadn dX9_at_4 rfl rfl rfl ?_
  refine Vj_if_lt (tgt := 20) dX9_at_5 (by decide) rfl (fun h5 => ?_) (fun h5 => ?_)
  ·
    have hz : ¬ (0 ≤ i ∧ i < nI 7) := fun z => absurd h5 (Int32.not_lt.mpr z.1)
    refine Vj_iconst (v := 0) dX9_at_20 rfl (by decide) ?_
    exact Vr_iret rfl rfl dX9_at_21 ⟨by rw [rd, if_neg hz], rfl⟩
  ·
    refine Vj_iloadn dX9_at_8 rfl rfl rfl ?_
    refine Vj_aloadn dX9_at_9 rfl rfl rfl ?_
    refine Vj_alenORDERS dX9_at_10 rfl ?_
    refine Vj_icmp_ge (tgt := 20) dX9_at_11 (by decide) rfl (fun h11 => ?_) (fun h11 => ?_)
    ·
      have hz : ¬ (0 ≤ i ∧ i < nI 7) := fun z => absurd h11 (Int32.not_le.mpr z.2)
      refine Vj_iconst (v := 0) dX9_at_20 rfl (by decide) ?_
      exact Vr_iret rfl rfl dX9_at_21 ⟨by rw [rd, if_neg hz], rfl⟩
    ·
      refine Vj_aloadn dX9_at_14 rfl rfl rfl ?_
      refine Vj_iloadn dX9_at_15 rfl rfl rfl ?_
      refine Vj_aldORDERS (at_in (n := 7) (by decide) h5 h11) dX9_at_16 rfl ?_
      refine Vj_goto (q := 21) dX9_at_17 (by decide) ?_
      exact Vr_iret rfl rfl dX9_at_21 (⟨by rw [rd, if_pos ⟨i_nlt h5, i_nle h11⟩], rfl⟩)
theorem qX9_atORDERSn {σ : Mem} {j : Nat} (hj : j < 7) : Ct shX 0 mX9_at [.ref 1001, .int (nI j)] σ (Ri (tORD j) σ) := by
  have h := qX9_atORDERS (σ := σ) (nI j)
  rwa [rd_in hj (by decide)] at h
set_option maxRecDepth 100000 in
theorem qX9_put {σ : Mem} {q n : Nat} (hq : shX[q]? = some (.inl (0, n))) (hn : n < 2 ^ 31) (i x : Int32) : Ct shX 0 mX9_put [.ref q, .int i, .int x] σ (Rv (wr σ q n i x)) := by
  refine Ct.of (by decide) (Nat.le_of_ble_eq_true rfl) (l := [some (.ref q), some (.int i), some (.int x)]) rfl ?_
  refine Vj_aloadn dX9_put_0 rfl rfl rfl ?_
  refine Vj_ifnull dX9_put_1 rfl ?_
  refine Vj_iloadn dX9_put_4 rfl rfl rfl ?_
  refine Vj_if_lt (tgt := 18) dX9_put_5 (by decide) rfl (fun h5 => ?_) (fun h5 => ?_)
  ·
    exact Vr_vret rfl dX9_put_18 ⟨rfl, by rw [wr, if_neg (fun z => absurd h5 (Int32.not_lt.mpr z.1))]⟩
  ·
    refine Vj_iloadn dX9_put_8 rfl rfl rfl ?_
    refine Vj_aloadn dX9_put_9 rfl rfl rfl ?_
    refine Vj_alen hq rfl dX9_put_10 rfl ?_
    refine Vj_icmp_ge (tgt := 18) dX9_put_11 (by decide) rfl (fun h11 => ?_) (fun h11 => ?_)
    ·
      exact Vr_vret rfl dX9_put_18 ⟨rfl, by rw [wr, if_neg (fun z => absurd h11 (Int32.not_le.mpr z.2))]⟩
    ·
      refine Vj_aloadn dX9_put_14 rfl rfl rfl ?_
      refine Vj_iloadn dX9_put_15 rfl rfl rfl ?_
      refine Vj_iloadn dX9_put_16 rfl rfl rfl ?_
      refine Vj_iast hq (at_in hn h5 h11) dX9_put_17 rfl ?_
      exact Vr_vret rfl dX9_put_18 ⟨rfl, by rw [wr, if_pos ⟨i_nlt h5, i_nle h11⟩]⟩
theorem qX9_putn {σ : Mem} {q n : Nat} (hq : shX[q]? = some (.inl (0, n))) (hn : n < 2 ^ 31) {j : Nat} (hj : j < n) (x : Int32) : Ct shX 0 mX9_put [.ref q, .int (nI j), .int x] σ (Rv (uI σ q j x)) := by
  have h := qX9_put (σ := σ) hq hn (nI j) x
  rwa [wr_in hj hn] at h
end
section
/-! the room in numbers: sizes of the things; buttons (thing, kind, a); a code has two bits for each thing, the first one uppermost -/
abbrev Rm : Type := List Nat × List (Nat × Nat × Nat)
def rN (ρ : Rm) : Nat := ρ.1.length
def rS (ρ : Rm) (t : Nat) : Nat := ρ.1.getD t 0
def rB (ρ : Rm) : Nat := ρ.2.length
def rT (ρ : Rm) (b : Nat) : Nat := (ρ.2.getD b (0, 0, 0)).1
def rK (ρ : Rm) (b : Nat) : Nat := (ρ.2.getD b (0, 0, 0)).2.1
def rA (ρ : Rm) (b : Nat) : Nat := (ρ.2.getD b (0, 0, 0)).2.2
def okR (ρ : Rm) : Prop := rN ρ < 5 ∧ (∀ t, t < rN ρ → 2 ≤ rS ρ t ∧ rS ρ t ≤ 4) ∧ rB ρ < 7 ∧ ∀ b, b < rB ρ → rT ρ b < rN ρ ∧ rK ρ b < 4 ∧ (rK ρ b = 1 → rA ρ b < rS ρ (rT ρ b)) ∧ (rK ρ b = 3 → rA ρ b < rN ρ ∧ rA ρ b ≠ rT ρ b) ∧ rA ρ b < 10
def bI (b : Bool) : Int32 := if b then 1 else 0
theorem bI_t : bI true = 1 := rfl
theorem bI_f : bI false = 0 := rfl
theorem bI_nar (b : Bool) : narrow .boolean (.int (bI b)) = .int (bI b) := by cases b <;> decide
def cS (n c t : Nat) : Nat := c / 4 ^ (n - 1 - t) % 4
def cW (n c t s : Nat) : Nat := c - cS n c t * 4 ^ (n - 1 - t) + s * 4 ^ (n - 1 - t)
theorem cS_lt (n c t : Nat) : cS n c t < 4 := Nat.mod_lt _ (by decide)
set_option maxRecDepth 100000 in
theorem cW_lt : ∀ n, n < 5 → ∀ c, c < 4 ^ n → ∀ t, t < n → ∀ s, s < 4 → cW n c t s < 4 ^ n := by decide +kernel
set_option maxRecDepth 100000 in
theorem cS_cW : ∀ n, n < 5 → ∀ c, c < 4 ^ n → ∀ t, t < n → ∀ s, s < 4 → ∀ u, u < n → cS n (cW n c t s) u = if u = t then s else cS n c u := by decide +kernel
theorem p4_le {n : Nat} (h : n < 5) : 4 ^ n ≤ 256 := (by decide : ∀ n, n < 5 → 4 ^ n ≤ 256) n h
theorem p4_pos (n : Nat) : 0 < 4 ^ n := Nat.pow_pos (by decide)
set_option maxRecDepth 100000 in
theorem i_sh : ∀ n, n < 5 → ∀ t, t < n → (2 : Int32) * (nI n - 1 - nI t) = nI (2 * (n - 1 - t)) := by decide +kernel
set_option maxRecDepth 100000 in
theorem i_st0 : ∀ k, k < 4 → ∀ c, c < 256 → (nI c >>> (nI (2 * k) &&& 31)) &&& 3 = nI (c / 4 ^ k % 4) := by decide +kernel
set_option maxRecDepth 100000 in
theorem i_wi0 : ∀ k, k < 4 → ∀ c, c < 256 → ∀ s, s < 4 → (nI c &&& (((3 : Int32) <<< (nI (2 * k) &&& 31)) ^^^ (-1))) ||| (nI s <<< (nI (2 * k) &&& 31)) = nI (c - c / 4 ^ k % 4 * 4 ^ k + s * 4 ^ k) := by decide +kernel
theorem i_st {n c t : Nat} (hn : n < 5) (ht : t < n) (hc : c < 256) : (nI c >>> (nI (2 * (n - 1 - t)) &&& 31)) &&& 3 = nI (cS n c t) := i_st0 (n - 1 - t) (by omega) c hc
theorem i_wi {n c t s : Nat} (hn : n < 5) (ht : t < n) (hc : c < 256) (hs : s < 4) : (nI c &&& (((3 : Int32) <<< (nI (2 * (n - 1 - t)) &&& 31)) ^^^ (-1))) ||| (nI s <<< (nI (2 * (n - 1 - t)) &&& 31)) = nI (cW n c t s) := i_wi0 (n - 1 - t) (by omega) c hc s hs
theorem i_p4 : ∀ n, n < 5 → (1 : Int32) <<< (((2 : Int32) * nI n) &&& 31) = nI (4 ^ n) := by decide +kernel
theorem i_ev : ∀ n, n < 7 → (1 : Int32) <<< (nI n &&& 31) - 1 = nI (2 ^ n - 1) := by decide +kernel
theorem nI_lit (n : Nat) : (OfNat.ofNat n : Int32) = nI n := rfl
/-- a code that is a mess -/
def cOk (ρ : Rm) (c : Nat) : Bool := (List.range (rN ρ)).all (fun t => decide (cS (rN ρ) c t < rS ρ t))
def cStp (ρ : Rm) (c t : Nat) : Nat := cW (rN ρ) c t (if cS (rN ρ) c t + 1 < rS ρ t then cS (rN ρ) c t + 1 else 0)
/-- the things from t on switched, by what c0 holds -/
def cSwi (n c0 : Nat) : Nat → Nat → Nat → Nat
  | 0, _, c => c
  | k + 1, t, c => cSwi n c0 k (t + 1) (cW n c t (if cS n c0 t = 0 then 1 else 0))
def cDo (ρ : Rm) (c b : Nat) : Nat :=
  if rK ρ b = 1 then cW (rN ρ) c (rT ρ b) (rA ρ b)
  else if rK ρ b = 2 then cSwi (rN ρ) c (rN ρ - rT ρ b) (rT ρ b) c
  else if rK ρ b = 3 then (if cS (rN ρ) c (rA ρ b) = 0 then c else cStp ρ c (rT ρ b))
  else cStp ρ c (rT ρ b)
def cNx (ρ : Rm) (c b : Nat) : Nat := if cOk ρ c then cDo ρ c b else c
/-- the figures of the first k things -/
def cDg (n c : Nat) : Nat → Nat
  | 0 => 0
  | k + 1 => cDg n c k * 10 + cS n c k
/-- the lights of the first k things -/
def cLi (n c : Nat) : Nat → Nat
  | 0 => 0
  | k + 1 => if cS n c k = 0 then cLi n c k else cLi n c k ||| 1 <<< k
theorem cOk_iff {ρ : Rm} {c : Nat} : cOk ρ c = true ↔ ∀ t, t < rN ρ → cS (rN ρ) c t < rS ρ t := by
  simp [cOk, List.all_eq_true]
theorem cDg_lt (n c : Nat) : ∀ k, cDg n c k < 10 ^ k
  | 0 => by simp [cDg]
  | k + 1 => by
    have h := cDg_lt n c k
    have h2 := cS_lt n c k
    rw [cDg, Nat.pow_succ]
    omega
theorem cLi_lt (n c : Nat) : ∀ k, cLi n c k < 2 ^ k
  | 0 => by simp [cLi]
  | k + 1 => by
    have h := cLi_lt n c k
    rw [cLi]
    split
    · rw [Nat.pow_succ]; omega
    · have : 1 <<< k < 2 ^ (k + 1) := by rw [Nat.one_shiftLeft]; exact Nat.pow_lt_pow_right (by decide) (by omega)
      exact Nat.or_lt_two_pow (by rw [Nat.pow_succ]; omega) this
theorem cStp_lt {ρ : Rm} (h : okR ρ) {c t : Nat} (hc : c < 4 ^ rN ρ) (ht : t < rN ρ) : cStp ρ c t < 4 ^ rN ρ := by
  refine cW_lt _ h.1 c hc t ht _ ?_
  have := (h.2.1 t ht).2
  split <;> omega
theorem cSwi_lt {n : Nat} (hn : n < 5) (c0 : Nat) : ∀ k t c, c < 4 ^ n → t + k ≤ n → cSwi n c0 k t c < 4 ^ n
  | 0, _, _, hc, _ => hc
  | k + 1, t, c, hc, h => cSwi_lt hn c0 k (t + 1) _ (cW_lt n hn c hc t (by omega) _ (by split <;> omega)) (by omega)
theorem cDo_lt {ρ : Rm} (h : okR ρ) {c b : Nat} (hc : c < 4 ^ rN ρ) (hb : b < rB ρ) : cDo ρ c b < 4 ^ rN ρ := by
  obtain ⟨h1, h2, h3, h4, -⟩ := h.2.2.2 b hb
  unfold cDo
  split
  · exact cW_lt _ h.1 c hc _ h1 _ (by have := h3 (by assumption); have := (h.2.1 _ h1).2; omega)
  · split
    · exact cSwi_lt h.1 c _ _ c hc (by omega)
    · split
      · split
        · exact hc
        · exact cStp_lt h hc h1
      · exact cStp_lt h hc h1
theorem cNx_lt {ρ : Rm} (h : okR ρ) {c b : Nat} (hc : c < 4 ^ rN ρ) (hb : b < rB ρ) : cNx ρ c b < 4 ^ rN ρ := by
  unfold cNx
  split
  · exact cDo_lt h hc hb
  · exact hc
theorem cOk_cW {ρ : Rm} (h : okR ρ) {c t s : Nat} (hc : c < 4 ^ rN ρ) (ht : t < rN ρ) (hs : s < rS ρ t) (ho : cOk ρ c = true) : cOk ρ (cW (rN ρ) c t s) = true := by
  rw [cOk_iff] at ho ⊢
  intro u hu
  rw [cS_cW _ h.1 c hc t ht s (by have := (h.2.1 t ht).2; omega) u hu]
  split
  · subst u; exact hs
  · exact ho u hu
theorem cOk_stp {ρ : Rm} (h : okR ρ) {c t : Nat} (hc : c < 4 ^ rN ρ) (ht : t < rN ρ) (ho : cOk ρ c = true) : cOk ρ (cStp ρ c t) = true := by
  refine cOk_cW h hc ht ?_ ho
  have := (h.2.1 t ht).1
  split <;> omega
theorem cOk_swi {ρ : Rm} (h : okR ρ) (c0 : Nat) : ∀ k t c, c < 4 ^ rN ρ → t + k ≤ rN ρ → cOk ρ c = true → cOk ρ (cSwi (rN ρ) c0 k t c) = true
  | 0, _, _, _, _, ho => ho
  | k + 1, t, c, hc, hk, ho => by
    refine cOk_swi h c0 k (t + 1) _ (cW_lt _ h.1 c hc t (by omega) _ (by split <;> omega)) (by omega) (cOk_cW h hc (by omega) ?_ ho)
    have := (h.2.1 t (by omega)).1
    split <;> omega
theorem cOk_do {ρ : Rm} (h : okR ρ) {c b : Nat} (hc : c < 4 ^ rN ρ) (hb : b < rB ρ) (ho : cOk ρ c = true) : cOk ρ (cDo ρ c b) = true := by
  obtain ⟨h1, h2, h3, h4, -⟩ := h.2.2.2 b hb
  unfold cDo
  split
  · exact cOk_cW h hc h1 (h3 (by assumption)) ho
  · split
    · exact cOk_swi h c _ _ c hc (by omega) ho
    · split
      · split
        · exact ho
        · exact cOk_stp h hc h1 ho
      · exact cOk_stp h hc h1 ho
theorem cOk_nx {ρ : Rm} (h : okR ρ) {c b : Nat} (hc : c < 4 ^ rN ρ) (hb : b < rB ρ) (ho : cOk ρ c = true) : cOk ρ (cNx ρ c b) = true := by
  unfold cNx
  rw [if_pos ho]
  exact cOk_do h hc hb ho
end
section
/-! FiveRemotes$Plan over a room ρ: what the parts hold (cells 11 to 16) -/
def RP (ρ : Rm) (σ : Mem) : Prop := okR ρ ∧ σ.1 11 0 = nI (rN ρ) ∧ σ.1 11 1 = nI (rB ρ) ∧ (∀ t, t < rN ρ → σ.1 12 t = nI (rS ρ t)) ∧ ∀ b, b < rB ρ → σ.1 14 b = nI (rT ρ b) ∧ σ.1 15 b = nI (rK ρ b) ∧ σ.1 16 b = nI (rA ρ b)
theorem RP.of {ρ : Rm} {σ σ' : Mem} (h : RP ρ σ) (h1 : σ'.1 11 = σ.1 11) (h2 : σ'.1 12 = σ.1 12) (h3 : σ'.1 14 = σ.1 14) (h4 : σ'.1 15 = σ.1 15) (h5 : σ'.1 16 = σ.1 16) : RP ρ σ' := by
  refine ⟨h.1, by rw [h1]; exact h.2.1, by rw [h1]; exact h.2.2.1, fun t ht => by rw [h2]; exact h.2.2.2.1 t ht, fun b hb => ?_⟩
  rw [h3, h4, h5]
  exact h.2.2.2.2 b hb
/-- other cells than these hold what they held -/
def Eqo (S : List Nat) (σ σ' : Mem) : Prop := (∀ q, q ∉ S → σ'.1 q = σ.1 q) ∧ σ'.2 = σ.2
theorem Eqo.rf {S : List Nat} {σ : Mem} : Eqo S σ σ := ⟨fun _ _ => rfl, rfl⟩
theorem Eqo.tr {S S' : List Nat} {σ σ' σ'' : Mem} (h : Eqo S σ σ') (h' : Eqo S' σ' σ'') : Eqo (S ++ S') σ σ'' :=
  ⟨fun q hq => (h'.1 q fun z => hq (List.mem_append_right _ z)).trans (h.1 q fun z => hq (List.mem_append_left _ z)), h'.2.trans h.2⟩
theorem Eqo.in {S S' : List Nat} {σ σ' : Mem} (h : Eqo S σ σ') (hs : S.all (fun q => S'.contains q) = true) : Eqo S' σ σ' :=
  ⟨fun q hq => h.1 q fun z => hq (by have := List.all_eq_true.mp hs q z; simpa using this), h.2⟩
theorem Eqo.u {S : List Nat} {σ σ' : Mem} {q j : Nat} {x : Int32} (h : Eqo S σ σ') (hq : S.contains q = true) : Eqo S σ (uI σ' q j x) :=
  ⟨fun p hp => by
    have : p ≠ q := fun e => hp (by subst e; simpa using hq)
    rw [uI_ne this]; exact h.1 p hp, h.2⟩
theorem Eqo.at {S : List Nat} {σ σ' : Mem} (h : Eqo S σ σ') (q : Nat) (hq : S.contains q = false) : σ'.1 q = σ.1 q := h.1 q (fun z => by
  have : S.contains q = true := by simpa using z
  rw [hq] at this; cases this)
theorem nI_z {x : Nat} (h : x < 2 ^ 31) : nI x = 0 ↔ x = 0 := by
  rw [show (0 : Int32) = nI 0 from rfl, nI_eq h (by decide)]
theorem bI_z {b : Bool} : bI b = 0 ↔ b = false := by cases b <;> decide
theorem bI_n {b : Bool} : ¬ bI b = 0 ↔ b = true := by cases b <;> decide
/-- is x one of n things -/
def hT (n : Nat) (x : Int32) : Bool := decide (0 ≤ x ∧ x < nI n)
theorem hT_y {n : Nat} {x : Int32} (h1 : ¬ x < 0) (h2 : ¬ nI n ≤ x) : hT n x = true := decide_eq_true ⟨i_nlt h1, i_nle h2⟩
theorem hT_n1 {n : Nat} {x : Int32} (h1 : x < 0) : hT n x = false := decide_eq_false fun z => absurd h1 (Int32.not_lt.mpr z.1)
theorem hT_n2 {n : Nat} {x : Int32} (h2 : nI n ≤ x) : hT n x = false := decide_eq_false fun z => absurd h2 (Int32.not_le.mpr z.2)
theorem hT_iff {n : Nat} (hn : n < 2 ^ 31) {x : Int32} : hT n x = true ↔ ∃ j, j < n ∧ x = nI j := by
  constructor
  · intro h
    have h := of_decide_eq_true h
    obtain ⟨j, hj, rfl⟩ := nI_of (Int32.not_lt.mpr h.1)
    exact ⟨j, (nI_ltI hj hn).mp h.2, rfl⟩
  · rintro ⟨j, hj, rfl⟩
    exact decide_eq_true ⟨nI_pos' (by omega), nI_lt hj hn⟩

set_option maxRecDepth 100000 in
theorem qX2_shiftOf {ρ : Rm} {σ : Mem} (h : RP ρ σ) {t : Nat} (ht : t < rN ρ) : Ct shX 0 mX2_shiftOf [.ref 10, .int (nI t)] σ (Ri (nI (2 * (rN ρ - 1 - t))) σ) := by
  refine Ct.of (by decide) (Nat.le_of_ble_eq_true rfl) (l := [some (.ref 10), some (.int (nI t))]) rfl ?_
  refine Vj_iconst (q := 1) (v := 2) dX2_shiftOf_0 rfl (by decide) ?_
  refine Vj_aloadn (q := 2) dX2_shiftOf_1 rfl rfl rfl ?_
  refine Vj_getR (q := 5) flX2_12 rfl rfl dX2_shiftOf_2 rfl ?_
  refine Vj_getI (q := 8) flX2_32 rfl rfl dX2_shiftOf_5 rfl ?_
  rw [h.2.1]
  refine Vj_iconst (q := 9) (v := 1) dX2_shiftOf_8 rfl (by decide) ?_
  refine Vj_isub (q := 10) dX2_shiftOf_9 rfl ?_
  refine Vj_iloadn (q := 11) dX2_shiftOf_10 rfl rfl rfl ?_
  refine Vj_isub (q := 12) dX2_shiftOf_11 rfl ?_
  refine Vj_imul (q := 13) dX2_shiftOf_12 rfl ?_
  rw [i_sh _ h.1.1 _ ht]
  exact Vr_iret rfl rfl dX2_shiftOf_13 (⟨rfl, rfl⟩)
set_option maxRecDepth 100000 in
theorem qX2_stateIn {ρ : Rm} {σ : Mem} (h : RP ρ σ) {c t : Nat} (hc : c < 256) (ht : t < rN ρ) : Ct shX 1 mX2_stateIn [.ref 10, .int (nI c), .int (nI t)] σ (Ri (nI (cS (rN ρ) c t)) σ) := by
  refine Ct.of (by decide) (Nat.le_of_ble_eq_true rfl) (l := [some (.ref 10), some (.int (nI c)), some (.int (nI t))]) rfl ?_
  refine Vj_iloadn (q := 1) dX2_stateIn_0 rfl rfl rfl ?_
  refine Vj_aloadn (q := 2) dX2_stateIn_1 rfl rfl rfl ?_
  refine Vj_iloadn (q := 3) dX2_stateIn_2 rfl rfl rfl ?_
  refine Vj_callVi (q := 6) (qX2_shiftOf h ht) (by decide) rfl rfl lkX2_84 viX2_shiftOf okX2_shiftOf dX2_stateIn_3 rfl rfl (Nat.le_of_ble_eq_true rfl) ?_
  refine Vj_ishr (q := 7) dX2_stateIn_6 rfl ?_
  refine Vj_iconst (q := 8) (v := 3) dX2_stateIn_7 rfl (by decide) ?_
  refine Vj_iand (q := 9) dX2_stateIn_8 rfl ?_
  rw [i_st h.1.1 ht hc]
  exact Vr_iret rfl rfl dX2_stateIn_9 (⟨rfl, rfl⟩)
set_option maxRecDepth 100000 in
theorem qX2_with {ρ : Rm} {σ : Mem} (h : RP ρ σ) {c t s : Nat} (hc : c < 256) (ht : t < rN ρ) (hs : s < 4) : Ct shX 1 mX2_with [.ref 10, .int (nI c), .int (nI t), .int (nI s)] σ (Ri (nI (cW (rN ρ) c t s)) σ) := by
  refine Ct.of (by decide) (Nat.le_of_ble_eq_true rfl) (l := [some (.ref 10), some (.int (nI c)), some (.int (nI t)), some (.int (nI s)), none]) rfl ?_
  refine Vj_aloadn (q := 1) dX2_with_0 rfl rfl rfl ?_
  refine Vj_iloadn (q := 2) dX2_with_1 rfl rfl rfl ?_
  refine Vj_callVi (q := 5) (qX2_shiftOf h ht) (by decide) rfl rfl lkX2_84 viX2_shiftOf okX2_shiftOf dX2_with_2 rfl rfl (Nat.le_of_ble_eq_true rfl) ?_
  refine Vs_istore4 (q := 7) dX2_with_5 rfl (by decide) rfl ?_
  refine Vj_iloadn (q := 8) dX2_with_7 rfl rfl rfl ?_
  refine Vj_iconst (q := 9) (v := 3) dX2_with_8 rfl (by decide) ?_
  refine Vj_iload (q := 11) dX2_with_9 rfl rfl ?_
  refine Vj_ishl (q := 12) dX2_with_11 rfl ?_
  refine Vj_iconst (q := 13) (v := (-1)) dX2_with_12 rfl (by decide) ?_
  refine Vj_ixor (q := 14) dX2_with_13 rfl ?_
  refine Vj_iand (q := 15) dX2_with_14 rfl ?_
  refine Vj_iloadn (q := 16) dX2_with_15 rfl rfl rfl ?_
  refine Vj_iload (q := 18) dX2_with_16 rfl rfl ?_
  refine Vj_ishl (q := 19) dX2_with_18 rfl ?_
  refine Vj_ior (q := 20) dX2_with_19 rfl ?_
  rw [i_wi h.1.1 ht hc hs]
  exact Vr_iret rfl rfl dX2_with_20 (⟨rfl, rfl⟩)
set_option maxRecDepth 100000 in
theorem qX2_statesOf {ρ : Rm} {σ : Mem} (h : RP ρ σ) {t : Nat} (ht : t < rN ρ) : Ct shX 1 mX2_statesOf [.ref 10, .int (nI t)] σ (Ri (nI (rS ρ t)) σ) := by
  refine Ct.of (by decide) (Nat.le_of_ble_eq_true rfl) (l := [some (.ref 10), some (.int (nI t))]) rfl ?_
  refine Vj_aloadn (q := 1) dX2_statesOf_0 rfl rfl rfl ?_
  refine Vj_getR (q := 4) flX2_12 rfl rfl dX2_statesOf_1 rfl ?_
  refine Vj_getR (q := 7) flX2_93 rfl rfl dX2_statesOf_4 rfl ?_
  refine Vj_iloadn (q := 8) dX2_statesOf_7 rfl rfl rfl ?_
  refine Vj_callSi (q := 11) (qX9_atn rfl (by decide) (j := t) (by have := h.1.1; omega)) (by decide) lkX2_64 stX9_at okX9_at dX2_statesOf_8 rfl rfl (Nat.le_of_ble_eq_true rfl) ?_
  rw [h.2.2.2.1 t ht]
  exact Vr_iret rfl rfl dX2_statesOf_11 (⟨rfl, rfl⟩)
set_option maxRecDepth 100000 in
theorem qX2_stepped {ρ : Rm} {σ : Mem} (h : RP ρ σ) {c t : Nat} (hc : c < 256) (ht : t < rN ρ) : Ct shX 2 mX2_stepped [.ref 10, .int (nI c), .int (nI t)] σ (Ri (nI (cStp ρ c t)) σ) := by
  have hS := cS_lt (rN ρ) c t
  have hz := (h.1.2.1 t ht).2
  unfold cStp
  refine Ct.of (by decide) (Nat.le_of_ble_eq_true rfl) (l := [some (.ref 10), some (.int (nI c)), some (.int (nI t)), none]) rfl ?_
  refine Vj_aloadn (q := 1) dX2_stepped_0 rfl rfl rfl ?_
  refine Vj_iloadn (q := 2) dX2_stepped_1 rfl rfl rfl ?_
  refine Vj_iloadn (q := 3) dX2_stepped_2 rfl rfl rfl ?_
  refine Vj_callVi (q := 6) (qX2_stateIn h hc ht) (by decide) rfl rfl lkX2_43 viX2_stateIn okX2_stateIn dX2_stepped_3 rfl rfl (Nat.le_of_ble_eq_true rfl) ?_
  refine Vj_iconst (q := 7) (v := 1) dX2_stepped_6 rfl (by decide) ?_
  refine Vj_iadd (q := 8) dX2_stepped_7 rfl ?_
  rw [nI_1]
  refine Vs_istore3 (q := 9) dX2_stepped_8 rfl (by decide) rfl ?_
  refine Vj_aloadn (q := 10) dX2_stepped_9 rfl rfl rfl ?_
  refine Vj_iloadn (q := 11) dX2_stepped_10 rfl rfl rfl ?_
  refine Vj_iloadn (q := 12) dX2_stepped_11 rfl rfl rfl ?_
  refine Vj_iloadn (q := 13) dX2_stepped_12 rfl rfl rfl ?_
  refine Vj_aloadn (q := 14) dX2_stepped_13 rfl rfl rfl ?_
  refine Vj_iloadn (q := 15) dX2_stepped_14 rfl rfl rfl ?_
  refine Vj_callVi (q := 18) (qX2_statesOf h ht) (by decide) rfl rfl lkX2_47 viX2_statesOf okX2_statesOf dX2_stepped_15 rfl rfl (Nat.le_of_ble_eq_true rfl) ?_
  refine Vj_icmp_ge (q := 21) (tgt := 25) dX2_stepped_18 (by decide) rfl (fun h18 => ?_) (fun h18 => ?_)
  ·
    have hlt : ¬ cS (rN ρ) c t + 1 < rS ρ t := by
      have h18 := (nI_leI (by omega) (by omega)).mp h18
      omega
    rw [if_neg hlt]
    refine Vj_iconst (q := 26) (v := 0) dX2_stepped_25 rfl (by decide) ?_
    refine Vj_callVi (q := 29) (qX2_with h hc ht (s := 0) (by decide)) (by decide) rfl rfl lkX2_74 viX2_with okX2_with dX2_stepped_26 rfl rfl (Nat.le_of_ble_eq_true rfl) ?_
    exact Vr_iret rfl rfl dX2_stepped_29 (⟨rfl, rfl⟩)
  ·
    have hlt : cS (rN ρ) c t + 1 < rS ρ t := by
      have h18 := (nI_ltI (by omega) (by omega)).mp (i_nle h18)
      exact h18
    rw [if_pos hlt]
    refine Vj_iloadn (q := 22) dX2_stepped_21 rfl rfl rfl ?_
    refine Vj_goto (q := 26) dX2_stepped_22 (by decide) ?_
    refine Vj_callVi (q := 29) (qX2_with h hc ht (by omega)) (by decide) rfl rfl lkX2_74 viX2_with okX2_with dX2_stepped_26 rfl rfl (Nat.le_of_ble_eq_true rfl) ?_
    exact Vr_iret rfl rfl dX2_stepped_29 (⟨rfl, rfl⟩)
set_option maxRecDepth 100000 in
theorem qX2_switched_loop {ρ : Rm} {σ : Mem} (h : RP ρ σ) {c0 t0 : Nat} (hc0 : c0 < 256) : ∀ k t c : Nat, t + k = rN ρ → c < 4 ^ rN ρ → Vj shX 2 mX2_switched (Ri (nI (cSwi (rN ρ) c0 k t c)) σ) 5 [some (.ref 10), some (.int (nI c0)), some (.int (nI t0)), some (.int (nI c)), some (.int (nI t))] [] σ := by
  intro k
  induction k with
  | zero =>
    intro t c ht hc
    have hn := h.1.1
    refine Vj_iload (q := 7) dX2_switched_5 rfl rfl ?_
    refine Vj_aloadn (q := 8) dX2_switched_7 rfl rfl rfl ?_
    refine Vj_getR (q := 11) flX2_12 rfl rfl dX2_switched_8 rfl ?_
    refine Vj_getI (q := 14) flX2_32 rfl rfl dX2_switched_11 rfl ?_
    rw [h.2.1]
    refine Vj_icmp_ge (q := 17) (tgt := 46) dX2_switched_14 (by decide) rfl (fun _ => ?_) (fun hz => absurd (nI_le (by omega) (by omega)) hz)
    refine Vj_iloadn (q := 47) dX2_switched_46 rfl rfl rfl ?_
    exact Vr_iret rfl rfl dX2_switched_47 (⟨rfl, rfl⟩)
  | succ k ih =>
    intro t c ht hc
    have hn := h.1.1
    have hp4 := p4_le hn
    have hS := cS_lt (rN ρ) c0 t
    rw [cSwi]
    refine Vj_iload (q := 7) dX2_switched_5 rfl rfl ?_
    refine Vj_aloadn (q := 8) dX2_switched_7 rfl rfl rfl ?_
    refine Vj_getR (q := 11) flX2_12 rfl rfl dX2_switched_8 rfl ?_
    refine Vj_getI (q := 14) flX2_32 rfl rfl dX2_switched_11 rfl ?_
    rw [h.2.1]
    refine Vj_icmp_ge (q := 17) (tgt := 46) dX2_switched_14 (by decide) rfl (fun hz => absurd hz (nI_ge (by omega) (by omega))) (fun _ => ?_)
    refine Vj_aloadn (q := 18) dX2_switched_17 rfl rfl rfl ?_
    refine Vj_iloadn (q := 19) dX2_switched_18 rfl rfl rfl ?_
    refine Vj_iload (q := 21) dX2_switched_19 rfl rfl ?_
    refine Vj_aloadn (q := 22) dX2_switched_21 rfl rfl rfl ?_
    refine Vj_iloadn (q := 23) dX2_switched_22 rfl rfl rfl ?_
    refine Vj_iload (q := 25) dX2_switched_23 rfl rfl ?_
    refine Vj_callVi (q := 28) (qX2_stateIn h hc0 (by omega)) (by decide) rfl rfl lkX2_43 viX2_stateIn okX2_stateIn dX2_switched_25 rfl rfl (Nat.le_of_ble_eq_true rfl) ?_
    refine Vj_if_ne (q := 31) (tgt := 35) dX2_switched_28 (by decide) rfl (fun h28 => ?_) (fun h28 => ?_)
    ·
      rw [if_neg (fun z => h28 ((nI_z (by omega)).mpr z))]
      refine Vj_iconst (q := 36) (v := 0) dX2_switched_35 rfl (by decide) ?_
      refine Vj_callVi (q := 39) (qX2_with h (by omega) (by omega) (s := 0) (by decide)) (by decide) rfl rfl lkX2_74 viX2_with okX2_with dX2_switched_36 rfl rfl (Nat.le_of_ble_eq_true rfl) ?_
      refine Vs_istore3 (q := 40) dX2_switched_39 rfl (by decide) rfl ?_
      refine Vs_iinc4 (q := 43) (z := none) dX2_switched_40 rfl (by exact iinc_p _) (by decide) rfl ?_
      refine Vj_goto (q := 5) dX2_switched_43 (by decide) ?_
      rw [nI_1]
      exact ih (t + 1) _ (by omega) (cW_lt _ hn c hc t (by omega) _ (by decide))
    ·
      rw [if_pos ((nI_z (by omega)).mp (Decidable.not_not.mp (fun z => (fun hh => hh) z h28)))]
      refine Vj_iconst (q := 32) (v := 1) dX2_switched_31 rfl (by decide) ?_
      refine Vj_goto (q := 36) dX2_switched_32 (by decide) ?_
      refine Vj_callVi (q := 39) (qX2_with h (by omega) (by omega) (s := 1) (by decide)) (by decide) rfl rfl lkX2_74 viX2_with okX2_with dX2_switched_36 rfl rfl (Nat.le_of_ble_eq_true rfl) ?_
      refine Vs_istore3 (q := 40) dX2_switched_39 rfl (by decide) rfl ?_
      refine Vs_iinc4 (q := 43) (z := none) dX2_switched_40 rfl (by exact iinc_p _) (by decide) rfl ?_
      refine Vj_goto (q := 5) dX2_switched_43 (by decide) ?_
      rw [nI_1]
      exact ih (t + 1) _ (by omega) (cW_lt _ hn c hc t (by omega) _ (by decide))
set_option maxRecDepth 100000 in
theorem qX2_switched {ρ : Rm} {σ : Mem} (h : RP ρ σ) {c t : Nat} (hc : c < 4 ^ rN ρ) (ht : t < rN ρ) : Ct shX 2 mX2_switched [.ref 10, .int (nI c), .int (nI t)] σ (Ri (nI (cSwi (rN ρ) c (rN ρ - t) t c)) σ) := by
  refine Ct.of (by decide) (Nat.le_of_ble_eq_true rfl) (l := [some (.ref 10), some (.int (nI c)), some (.int (nI t)), none, none]) rfl ?_
  refine Vj_iloadn (q := 1) dX2_switched_0 rfl rfl rfl ?_
  refine Vs_istore3 (q := 2) dX2_switched_1 rfl (by decide) rfl ?_
  refine Vj_iloadn (q := 3) dX2_switched_2 rfl rfl rfl ?_
  refine Vs_istore4 (q := 5) dX2_switched_3 rfl (by decide) rfl ?_
  exact qX2_switched_loop h (by have := p4_le h.1.1; omega) (rN ρ - t) t c (by omega) hc
set_option maxRecDepth 100000 in
theorem qX2_done {ρ : Rm} {σ : Mem} (h : RP ρ σ) {c b : Nat} (hc : c < 4 ^ rN ρ) (hb : b < rB ρ) : Ct shX 3 mX2_done [.ref 10, .int (nI c), .int (nI b)] σ (Ri (nI (cDo ρ c b)) σ) := by
  have hc6 : c < 256 := by have := p4_le h.1.1; omega
  have hb7 := h.1.2.2.1
  obtain ⟨g1, g2, g3, g4, g5⟩ := h.1.2.2.2 b hb
  obtain ⟨e1, e2, e3⟩ := h.2.2.2.2 b hb
  refine Ct.of (by decide) (Nat.le_of_ble_eq_true rfl) (l := [some (.ref 10), some (.int (nI c)), some (.int (nI b)), none, none]) rfl ?_
  refine Vj_aloadn (q := 1) dX2_done_0 rfl rfl rfl ?_
  refine Vj_getR (q := 4) flX2_12 rfl rfl dX2_done_1 rfl ?_
  refine Vj_getR (q := 7) flX2_61 rfl rfl dX2_done_4 rfl ?_
  refine Vj_iloadn (q := 8) dX2_done_7 rfl rfl rfl ?_
  refine Vj_callSi (q := 11) (qX9_atn rfl (by decide) (j := b) (by omega)) (by decide) lkX2_64 stX9_at okX9_at dX2_done_8 rfl rfl (Nat.le_of_ble_eq_true rfl) ?_
  rw [e1]
  refine Vs_istore3 (q := 12) dX2_done_11 rfl (by decide) rfl ?_
  refine Vj_aloadn (q := 13) dX2_done_12 rfl rfl rfl ?_
  refine Vj_getR (q := 16) flX2_12 rfl rfl dX2_done_13 rfl ?_
  refine Vj_getR (q := 19) flX2_68 rfl rfl dX2_done_16 rfl ?_
  refine Vj_iloadn (q := 20) dX2_done_19 rfl rfl rfl ?_
  refine Vj_callSi (q := 23) (qX9_atn rfl (by decide) (j := b) (by omega)) (by decide) lkX2_64 stX9_at okX9_at dX2_done_20 rfl rfl (Nat.le_of_ble_eq_true rfl) ?_
  rw [e3]
  refine Vs_istore4 (q := 25) dX2_done_23 rfl (by decide) rfl ?_
  refine Vj_aloadn (q := 26) dX2_done_25 rfl rfl rfl ?_
  refine Vj_getR (q := 29) flX2_12 rfl rfl dX2_done_26 rfl ?_
  refine Vj_getR (q := 32) flX2_71 rfl rfl dX2_done_29 rfl ?_
  refine Vj_iloadn (q := 33) dX2_done_32 rfl rfl rfl ?_
  refine Vj_callSi (q := 36) (qX9_atn rfl (by decide) (j := b) (by omega)) (by decide) lkX2_64 stX9_at okX9_at dX2_done_33 rfl rfl (Nat.le_of_ble_eq_true rfl) ?_
  rw [e2]
  rcases (show rK ρ b = 1 ∨ rK ρ b = 2 ∨ rK ρ b = 3 ∨ rK ρ b = 0 by omega) with hk | hk | hk | hk
  ·
    rw [hk]
    refine Vj_tableIn (q := 64) (off := 28) dX2_done_36 (by decide) (by decide) (by decide) (by decide) ?_
    refine Vj_aloadn (q := 65) dX2_done_64 rfl rfl rfl ?_
    refine Vj_iloadn (q := 66) dX2_done_65 rfl rfl rfl ?_
    refine Vj_iloadn (q := 67) dX2_done_66 rfl rfl rfl ?_
    refine Vj_iload (q := 69) dX2_done_67 rfl rfl ?_
    refine Vj_callVi (q := 72) (qX2_with h hc6 g1 (by have := g3 hk; have := (h.1.2.1 _ g1).2; omega)) (by decide) rfl rfl lkX2_74 viX2_with okX2_with dX2_done_69 rfl rfl (Nat.le_of_ble_eq_true rfl) ?_
    exact Vr_iret rfl rfl dX2_done_72 (⟨by rw [cDo, if_pos hk], rfl⟩)
  ·
    rw [hk]
    refine Vj_tableIn (q := 73) (off := 37) dX2_done_36 (by decide) (by decide) (by decide) (by decide) ?_
    refine Vj_aloadn (q := 74) dX2_done_73 rfl rfl rfl ?_
    refine Vj_iloadn (q := 75) dX2_done_74 rfl rfl rfl ?_
    refine Vj_iloadn (q := 76) dX2_done_75 rfl rfl rfl ?_
    refine Vj_callVi (q := 79) (qX2_switched h hc g1) (by decide) rfl rfl lkX2_78 viX2_switched okX2_switched dX2_done_76 rfl rfl (Nat.le_of_ble_eq_true rfl) ?_
    exact Vr_iret rfl rfl dX2_done_79 (⟨by rw [cDo, if_neg (by omega), if_pos hk], rfl⟩)
  ·
    rw [hk]
    refine Vj_tableIn (q := 80) (off := 44) dX2_done_36 (by decide) (by decide) (by decide) (by decide) ?_
    refine Vj_aloadn (q := 81) dX2_done_80 rfl rfl rfl ?_
    refine Vj_iloadn (q := 82) dX2_done_81 rfl rfl rfl ?_
    refine Vj_iload (q := 84) dX2_done_82 rfl rfl ?_
    refine Vj_callVi (q := 87) (qX2_stateIn h hc6 (g4 hk).1) (by decide) rfl rfl lkX2_43 viX2_stateIn okX2_stateIn dX2_done_84 rfl rfl (Nat.le_of_ble_eq_true rfl) ?_
    refine Vj_if_ne (q := 90) (tgt := 94) dX2_done_87 (by decide) rfl (fun h87 => ?_) (fun h87 => ?_)
    ·
      refine Vj_aloadn (q := 95) dX2_done_94 rfl rfl rfl ?_
      refine Vj_iloadn (q := 96) dX2_done_95 rfl rfl rfl ?_
      refine Vj_iloadn (q := 97) dX2_done_96 rfl rfl rfl ?_
      refine Vj_callVi (q := 100) (qX2_stepped h hc6 g1) (by decide) rfl rfl lkX2_81 viX2_stepped okX2_stepped dX2_done_97 rfl rfl (Nat.le_of_ble_eq_true rfl) ?_
      exact Vr_iret rfl rfl dX2_done_100 (⟨by rw [cDo, if_neg (by omega), if_neg (by omega), if_pos hk, if_neg (fun z => h87 ((nI_z (by have := cS_lt (rN ρ) c (rA ρ b); omega)).mpr z))], rfl⟩)
    ·
      refine Vj_iloadn (q := 91) dX2_done_90 rfl rfl rfl ?_
      refine Vj_goto (q := 100) dX2_done_91 (by decide) ?_
      exact Vr_iret rfl rfl dX2_done_100 (⟨by rw [cDo, if_neg (by omega), if_neg (by omega), if_pos hk, if_pos ((nI_z (by have := cS_lt (rN ρ) c (rA ρ b); omega)).mp h87)], rfl⟩)
  ·
    rw [hk]
    refine Vj_tableOut (q := 101) dX2_done_36 (Or.inl (by decide)) (by decide) ?_
    refine Vj_aloadn (q := 102) dX2_done_101 rfl rfl rfl ?_
    refine Vj_iloadn (q := 103) dX2_done_102 rfl rfl rfl ?_
    refine Vj_iloadn (q := 104) dX2_done_103 rfl rfl rfl ?_
    refine Vj_callVi (q := 107) (qX2_stepped h hc6 g1) (by decide) rfl rfl lkX2_81 viX2_stepped okX2_stepped dX2_done_104 rfl rfl (Nat.le_of_ble_eq_true rfl) ?_
    exact Vr_iret rfl rfl dX2_done_107 (⟨by rw [cDo, if_neg (by omega), if_neg (by omega), if_neg (by omega)], rfl⟩)
set_option maxRecDepth 100000 in
theorem qX2_behind {σ : Mem} {c b : Nat} (hc : c < 256) (hb : b < 6) : Ct shX 1 mX2_behind [.ref 10, .int (nI c), .int (nI b)] σ (Ri (σ.1 19 (c * 6 + b)) σ) := by
  refine Ct.of (by decide) (Nat.le_of_ble_eq_true rfl) (l := [some (.ref 10), some (.int (nI c)), some (.int (nI b))]) rfl ?_
  refine Vj_aloadn (q := 1) dX2_behind_0 rfl rfl rfl ?_
  refine Vj_getR (q := 4) flX2_25 rfl rfl dX2_behind_1 rfl ?_
  refine Vj_iloadn (q := 5) dX2_behind_4 rfl rfl rfl ?_
  refine Vj_bipush (q := 7) (v := 6) dX2_behind_5 rfl (by decide) ?_
  refine Vj_imul (q := 8) dX2_behind_7 rfl ?_
  refine Vj_iloadn (q := 9) dX2_behind_8 rfl rfl rfl ?_
  refine Vj_iadd (q := 10) dX2_behind_9 rfl ?_
  rw [show nI c * 6 + nI b = nI (c * 6 + b) by rw [show (6 : Int32) = nI 6 from rfl, pk_mul, nI_add]]
  refine Vj_callSi (q := 13) (qX9_atn rfl (by decide) (j := c * 6 + b) (by omega)) (by decide) lkX2_64 stX9_at okX9_at dX2_behind_10 rfl rfl (Nat.le_of_ble_eq_true rfl) ?_
  exact Vr_iret rfl rfl dX2_behind_13 (⟨rfl, rfl⟩)
set_option maxRecDepth 100000 in
theorem qX2_messOf {σ : Mem} {c : Nat} (hc : c < 256) : Ct shX 1 mX2_messOf [.ref 10, .int (nI c)] σ (Ri (σ.1 17 c) σ) := by
  refine Ct.of (by decide) (Nat.le_of_ble_eq_true rfl) (l := [some (.ref 10), some (.int (nI c))]) rfl ?_
  refine Vj_aloadn (q := 1) dX2_messOf_0 rfl rfl rfl ?_
  refine Vj_getR (q := 4) flX2_18 rfl rfl dX2_messOf_1 rfl ?_
  refine Vj_iloadn (q := 5) dX2_messOf_4 rfl rfl rfl ?_
  refine Vj_callSi (q := 8) (qX9_atn rfl (by decide) (j := c) hc) (by decide) lkX2_64 stX9_at okX9_at dX2_messOf_5 rfl rfl (Nat.le_of_ble_eq_true rfl) ?_
  exact Vr_iret rfl rfl dX2_messOf_8 (⟨rfl, rfl⟩)
set_option maxRecDepth 100000 in
theorem qX2_lightsIn {σ : Mem} {c : Nat} (hc : c < 256) : Ct shX 1 mX2_lightsIn [.ref 10, .int (nI c)] σ (Ri (σ.1 18 c) σ) := by
  refine Ct.of (by decide) (Nat.le_of_ble_eq_true rfl) (l := [some (.ref 10), some (.int (nI c))]) rfl ?_
  refine Vj_aloadn (q := 1) dX2_lightsIn_0 rfl rfl rfl ?_
  refine Vj_getR (q := 4) flX2_22 rfl rfl dX2_lightsIn_1 rfl ?_
  refine Vj_iloadn (q := 5) dX2_lightsIn_4 rfl rfl rfl ?_
  refine Vj_callSi (q := 8) (qX9_atn rfl (by decide) (j := c) hc) (by decide) lkX2_64 stX9_at okX9_at dX2_lightsIn_5 rfl rfl (Nat.le_of_ble_eq_true rfl) ?_
  exact Vr_iret rfl rfl dX2_lightsIn_8 (⟨rfl, rfl⟩)
set_option maxRecDepth 100000 in
theorem qX2_isReal {σ : Mem} {c : Nat} (hc : c < 256) : Ct shX 2 mX2_isReal [.ref 10, .int (nI c)] σ (Ri (bI (decide (¬ σ.1 17 c = -1))) σ) := by
  refine Ct.of (by decide) (Nat.le_of_ble_eq_true rfl) (l := [some (.ref 10), some (.int (nI c))]) rfl ?_
  refine Vj_aloadn (q := 1) dX2_isReal_0 rfl rfl rfl ?_
  refine Vj_iloadn (q := 2) dX2_isReal_1 rfl rfl rfl ?_
  refine Vj_callVi (q := 5) (qX2_messOf hc) (by decide) rfl rfl lkX2_90 viX2_messOf okX2_messOf dX2_isReal_2 rfl rfl (Nat.le_of_ble_eq_true rfl) ?_
  refine Vj_iconst (q := 6) (v := (-1)) dX2_isReal_5 rfl (by decide) ?_
  refine Vj_icmp_eq (q := 9) (tgt := 13) dX2_isReal_6 (by decide) rfl (fun h6 => ?_) (fun h6 => ?_)
  ·
    refine Vj_iconst (q := 14) (v := 0) dX2_isReal_13 rfl (by decide) ?_
    exact Vr_iret rfl rfl dX2_isReal_14 (⟨by rw [decide_eq_false (fun z => z h6)]; rfl, rfl⟩)
  ·
    refine Vj_iconst (q := 10) (v := 1) dX2_isReal_9 rfl (by decide) ?_
    refine Vj_goto (q := 14) dX2_isReal_10 (by decide) ?_
    exact Vr_iret rfl rfl dX2_isReal_14 (⟨by rw [decide_eq_true h6]; rfl, rfl⟩)
set_option maxRecDepth 100000 in
theorem qX2_things {ρ : Rm} {σ : Mem} (h : RP ρ σ) : Ct shX 0 mX2_things [.ref 10] σ (Ri (nI (rN ρ)) σ) := by
  refine Ct.of (by decide) (Nat.le_of_ble_eq_true rfl) (l := [some (.ref 10)]) rfl ?_
  refine Vj_aloadn (q := 1) dX2_things_0 rfl rfl rfl ?_
  refine Vj_getR (q := 4) flX2_12 rfl rfl dX2_things_1 rfl ?_
  refine Vj_getI (q := 7) flX2_32 rfl rfl dX2_things_4 rfl ?_
  exact Vr_iret rfl rfl dX2_things_7 (⟨by rw [h.2.1], rfl⟩)
set_option maxRecDepth 100000 in
theorem qX2_buttons {ρ : Rm} {σ : Mem} (h : RP ρ σ) : Ct shX 0 mX2_buttons [.ref 10] σ (Ri (nI (rB ρ)) σ) := by
  refine Ct.of (by decide) (Nat.le_of_ble_eq_true rfl) (l := [some (.ref 10)]) rfl ?_
  refine Vj_aloadn (q := 1) dX2_buttons_0 rfl rfl rfl ?_
  refine Vj_getR (q := 4) flX2_12 rfl rfl dX2_buttons_1 rfl ?_
  refine Vj_getI (q := 7) flX2_55 rfl rfl dX2_buttons_4 rfl ?_
  exact Vr_iret rfl rfl dX2_buttons_7 (⟨by rw [h.2.2.1], rfl⟩)
set_option maxRecDepth 100000 in
theorem qX2_everyButton {ρ : Rm} {σ : Mem} (h : RP ρ σ) : Ct shX 0 mX2_everyButton [.ref 10] σ (Ri (nI (2 ^ rB ρ - 1)) σ) := by
  refine Ct.of (by decide) (Nat.le_of_ble_eq_true rfl) (l := [some (.ref 10)]) rfl ?_
  refine Vj_iconst (q := 1) (v := 1) dX2_everyButton_0 rfl (by decide) ?_
  refine Vj_aloadn (q := 2) dX2_everyButton_1 rfl rfl rfl ?_
  refine Vj_getR (q := 5) flX2_12 rfl rfl dX2_everyButton_2 rfl ?_
  refine Vj_getI (q := 8) flX2_55 rfl rfl dX2_everyButton_5 rfl ?_
  rw [h.2.2.1]
  refine Vj_ishl (q := 9) dX2_everyButton_8 rfl ?_
  refine Vj_iconst (q := 10) (v := 1) dX2_everyButton_9 rfl (by decide) ?_
  refine Vj_isub (q := 11) dX2_everyButton_10 rfl ?_
  exact Vr_iret rfl rfl dX2_everyButton_11 (⟨by rw [i_ev _ h.1.2.2.1], rfl⟩)
set_option maxRecDepth 100000 in
theorem qX2_hasThing {ρ : Rm} {σ : Mem} (h : RP ρ σ) (x : Int32) : Ct shX 0 mX2_hasThing [.ref 10, .int x] σ (Ri (bI (hT (rN ρ) x)) σ) := by
  refine Ct.of (by decide) (Nat.le_of_ble_eq_true rfl) (l := [some (.ref 10), some (.int x)]) rfl ?_
  refine Vj_iloadn (q := 1) dX2_hasThing_0 rfl rfl rfl ?_
  refine Vj_if_lt (q := 4) (tgt := 19) dX2_hasThing_1 (by decide) rfl (fun h1 => ?_) (fun h1 => ?_)
  ·
    refine Vj_iconst (q := 20) (v := 0) dX2_hasThing_19 rfl (by decide) ?_
    exact Vr_iret rfl rfl dX2_hasThing_20 (⟨by rw [hT_n1 h1]; rfl, rfl⟩)
  ·
    refine Vj_iloadn (q := 5) dX2_hasThing_4 rfl rfl rfl ?_
    refine Vj_aloadn (q := 6) dX2_hasThing_5 rfl rfl rfl ?_
    refine Vj_getR (q := 9) flX2_12 rfl rfl dX2_hasThing_6 rfl ?_
    refine Vj_getI (q := 12) flX2_32 rfl rfl dX2_hasThing_9 rfl ?_
    rw [h.2.1]
    refine Vj_icmp_ge (q := 15) (tgt := 19) dX2_hasThing_12 (by decide) rfl (fun h12 => ?_) (fun h12 => ?_)
    ·
      refine Vj_iconst (q := 20) (v := 0) dX2_hasThing_19 rfl (by decide) ?_
      exact Vr_iret rfl rfl dX2_hasThing_20 (⟨by rw [hT_n2 h12]; rfl, rfl⟩)
    ·
      refine Vj_iconst (q := 16) (v := 1) dX2_hasThing_15 rfl (by decide) ?_
      refine Vj_goto (q := 20) dX2_hasThing_16 (by decide) ?_
      exact Vr_iret rfl rfl dX2_hasThing_20 (⟨by rw [hT_y h1 h12]; rfl, rfl⟩)
set_option maxRecDepth 100000 in
theorem qX2_hasButton {ρ : Rm} {σ : Mem} (h : RP ρ σ) (x : Int32) : Ct shX 0 mX2_hasButton [.ref 10, .int x] σ (Ri (bI (hT (rB ρ) x)) σ) := by
  refine Ct.of (by decide) (Nat.le_of_ble_eq_true rfl) (l := [some (.ref 10), some (.int x)]) rfl ?_
  refine Vj_iloadn (q := 1) dX2_hasButton_0 rfl rfl rfl ?_
  refine Vj_if_lt (q := 4) (tgt := 19) dX2_hasButton_1 (by decide) rfl (fun h1 => ?_) (fun h1 => ?_)
  ·
    refine Vj_iconst (q := 20) (v := 0) dX2_hasButton_19 rfl (by decide) ?_
    exact Vr_iret rfl rfl dX2_hasButton_20 (⟨by rw [hT_n1 h1]; rfl, rfl⟩)
  ·
    refine Vj_iloadn (q := 5) dX2_hasButton_4 rfl rfl rfl ?_
    refine Vj_aloadn (q := 6) dX2_hasButton_5 rfl rfl rfl ?_
    refine Vj_getR (q := 9) flX2_12 rfl rfl dX2_hasButton_6 rfl ?_
    refine Vj_getI (q := 12) flX2_55 rfl rfl dX2_hasButton_9 rfl ?_
    rw [h.2.2.1]
    refine Vj_icmp_ge (q := 15) (tgt := 19) dX2_hasButton_12 (by decide) rfl (fun h12 => ?_) (fun h12 => ?_)
    ·
      refine Vj_iconst (q := 20) (v := 0) dX2_hasButton_19 rfl (by decide) ?_
      exact Vr_iret rfl rfl dX2_hasButton_20 (⟨by rw [hT_n2 h12]; rfl, rfl⟩)
    ·
      refine Vj_iconst (q := 16) (v := 1) dX2_hasButton_15 rfl (by decide) ?_
      refine Vj_goto (q := 20) dX2_hasButton_16 (by decide) ?_
      exact Vr_iret rfl rfl dX2_hasButton_20 (⟨by rw [hT_y h1 h12]; rfl, rfl⟩)
end
section
/-! FiveRemotes$Parts: an object at q, its rows at q + 1 .. q + 5 -/
def PSh (q : Nat) : Prop := shX[q]? = some (.inr (0, [(0, 0), (0, 0), (2, q + 1), (2, q + 2), (2, q + 3), (2, q + 4), (2, q + 5)])) ∧ shX[q + 1]? = some (.inl (0, 4)) ∧ shX[q + 2]? = some (.inl (0, 4)) ∧ shX[q + 3]? = some (.inl (0, 6)) ∧ shX[q + 4]? = some (.inl (0, 6)) ∧ shX[q + 5]? = some (.inl (0, 6))
theorem PSh_4 : PSh 4 := ⟨rfl, rfl, rfl, rfl, rfl, rfl⟩
theorem PSh_11 : PSh 11 := ⟨rfl, rfl, rfl, rfl, rfl, rfl⟩
theorem PSh_43 : PSh 43 := ⟨rfl, rfl, rfl, rfl, rfl, rfl⟩
def mT (q n : Nat) (x y : Int32) (σ : Mem) : Mem := uI (uI (uI σ (q + 1) n x) (q + 2) n y) q 0 (nI (n + 1))
def mB (q n : Nat) (x y z : Int32) (σ : Mem) : Mem := uI (uI (uI (uI σ (q + 3) n x) (q + 4) n y) (q + 5) n z) q 1 (nI (n + 1))
theorem mT_ne {q n r : Nat} {x y : Int32} {σ : Mem} (h0 : r ≠ q) (h1 : r ≠ q + 1) (h2 : r ≠ q + 2) : (mT q n x y σ).1 r = σ.1 r := by
  unfold mT; rw [uI_ne h0, uI_ne h2, uI_ne h1]
theorem mB_ne {q n r : Nat} {x y z : Int32} {σ : Mem} (h0 : r ≠ q) (h1 : r ≠ q + 3) (h2 : r ≠ q + 4) (h3 : r ≠ q + 5) : (mB q n x y z σ).1 r = σ.1 r := by
  unfold mB; rw [uI_ne h0, uI_ne h3, uI_ne h2, uI_ne h1]
/-- what a Parts object tells -/
def PD (q : Nat) (L F : List Nat) (B : List (Nat × Nat × Nat)) (σ : Mem) : Prop := σ.1 q 0 = nI L.length ∧ σ.1 q 1 = nI B.length ∧ (∀ t, t < L.length → σ.1 (q + 1) t = nI (L.getD t 0) ∧ σ.1 (q + 2) t = nI (F.getD t 0)) ∧ ∀ b, b < B.length → σ.1 (q + 3) b = nI (B.getD b (0, 0, 0)).1 ∧ σ.1 (q + 4) b = nI (B.getD b (0, 0, 0)).2.1 ∧ σ.1 (q + 5) b = nI (B.getD b (0, 0, 0)).2.2
theorem PD.of {q : Nat} {L F : List Nat} {B : List (Nat × Nat × Nat)} {σ σ' : Mem} (h : PD q L F B σ) (he : ∀ i, i < 6 → σ'.1 (q + i) = σ.1 (q + i)) : PD q L F B σ' := by
  have e0 := he 0 (by decide)
  rw [Nat.add_zero] at e0
  refine ⟨by rw [e0]; exact h.1, by rw [e0]; exact h.2.1, fun t ht => ?_, fun b hb => ?_⟩
  · rw [he 1 (by decide), he 2 (by decide)]; exact h.2.2.1 t ht
  · rw [he 3 (by decide), he 4 (by decide), he 5 (by decide)]; exact h.2.2.2 b hb
theorem getD_l {α : Type} {L : List α} {x d : α} {t : Nat} (h : t < L.length) : (L ++ [x]).getD t d = L.getD t d := by
  simp [List.getD, List.getElem?_append_left h]
theorem getD_r {α : Type} {L : List α} {x d : α} : (L ++ [x]).getD L.length d = x := by
  simp [List.getD]
theorem PD.addT {q s i : Nat} {L F : List Nat} {B : List (Nat × Nat × Nat)} {σ : Mem} (h : PD q L F B σ) (hf : F.length = L.length) : PD q (L ++ [s]) (F ++ [i]) B (mT q L.length (nI s) (nI i) σ) := by
  refine ⟨by simp [mT, uI_eq, upd], ?_, fun t ht => ?_, fun b hb => ?_⟩
  · have : (mT q L.length (nI s) (nI i) σ).1 q 1 = σ.1 q 1 := by
      unfold mT; rw [uI_eq, upd, if_neg (by decide), uI_ne (by omega), uI_ne (by omega)]
    rw [this]; exact h.2.1
  · have e1 : (mT q L.length (nI s) (nI i) σ).1 (q + 1) = upd (σ.1 (q + 1)) L.length (nI s) := by unfold mT; rw [uI_ne (by omega), uI_ne (by omega), uI_eq]
    have e2 : (mT q L.length (nI s) (nI i) σ).1 (q + 2) = upd (σ.1 (q + 2)) L.length (nI i) := by unfold mT; rw [uI_ne (by omega), uI_eq, uI_ne (by omega)]
    rw [e1, e2]
    rw [List.length_append, List.length_singleton] at ht
    by_cases e : t = L.length
    · subst e
      refine ⟨by rw [upd, if_pos rfl, getD_r], ?_⟩
      rw [upd, if_pos rfl, ← hf, getD_r]
    · have ht' : t < L.length := by omega
      rw [upd, upd, if_neg e, if_neg e, getD_l ht', getD_l (by omega)]
      exact h.2.2.1 t ht'
  · rw [mT_ne (by omega) (by omega) (by omega), mT_ne (by omega) (by omega) (by omega), mT_ne (by omega) (by omega) (by omega)]
    exact h.2.2.2 b hb
theorem PD.addB {q : Nat} {L F : List Nat} {B : List (Nat × Nat × Nat)} {u : Nat × Nat × Nat} {σ : Mem} (h : PD q L F B σ) : PD q L F (B ++ [u]) (mB q B.length (nI u.1) (nI u.2.1) (nI u.2.2) σ) := by
  refine ⟨?_, by simp [mB, uI_eq, upd], fun t ht => ?_, fun b hb => ?_⟩
  · have : (mB q B.length (nI u.1) (nI u.2.1) (nI u.2.2) σ).1 q 0 = σ.1 q 0 := by
      unfold mB; rw [uI_eq, upd, if_neg (by decide), uI_ne (by omega), uI_ne (by omega), uI_ne (by omega)]
    rw [this]; exact h.1
  · rw [mB_ne (by omega) (by omega) (by omega) (by omega), mB_ne (by omega) (by omega) (by omega) (by omega)]
    exact h.2.2.1 t ht
  · have e1 : (mB q B.length (nI u.1) (nI u.2.1) (nI u.2.2) σ).1 (q + 3) = upd (σ.1 (q + 3)) B.length (nI u.1) := by unfold mB; rw [uI_ne (by omega), uI_ne (by omega), uI_ne (by omega), uI_eq]
    have e2 : (mB q B.length (nI u.1) (nI u.2.1) (nI u.2.2) σ).1 (q + 4) = upd (σ.1 (q + 4)) B.length (nI u.2.1) := by unfold mB; rw [uI_ne (by omega), uI_ne (by omega), uI_eq, uI_ne (by omega)]
    have e3 : (mB q B.length (nI u.1) (nI u.2.1) (nI u.2.2) σ).1 (q + 5) = upd (σ.1 (q + 5)) B.length (nI u.2.2) := by unfold mB; rw [uI_ne (by omega), uI_eq, uI_ne (by omega), uI_ne (by omega)]
    rw [e1, e2, e3]
    rw [List.length_append, List.length_singleton] at hb
    by_cases e : b = B.length
    · subst e
      simp only [upd, if_pos, getD_r, and_self]
    · have hb' : b < B.length := by omega
      rw [upd, upd, upd, if_neg e, if_neg e, if_neg e, getD_l hb']
      exact h.2.2.2 b hb'

set_option maxRecDepth 100000 in
theorem qX0_addThing {σ : Mem} {q n : Nat} (hq : PSh q) (hn : n < 4) (h0 : σ.1 q 0 = nI n) (x y : Int32) : Ct shX 1 mX0_addThing [.ref q, .int x, .int y] σ (Rv (mT q n x y σ)) := by
  refine Ct.of (by decide) (Nat.le_of_ble_eq_true rfl) (l := [some (.ref q), some (.int x), some (.int y)]) rfl ?_
  refine Vj_aloadn (q := 1) dX0_addThing_0 rfl rfl rfl ?_
  refine Vj_getR (q := 4) flX0_9 hq.1 rfl dX0_addThing_1 rfl ?_
  refine Vj_aloadn (q := 5) dX0_addThing_4 rfl rfl rfl ?_
  refine Vj_getI (q := 8) flX0_27 hq.1 rfl dX0_addThing_5 rfl ?_
  rw [h0]
  refine Vj_iloadn (q := 9) dX0_addThing_8 rfl rfl rfl ?_
  refine Vj_callSv (q := 12) (qX9_putn hq.2.1 (by decide) hn x) (by decide) lkX0_31 stX9_put okX9_put dX0_addThing_9 rfl rfl (Nat.le_of_ble_eq_true rfl) ?_
  refine Vj_aloadn (q := 13) dX0_addThing_12 rfl rfl rfl ?_
  refine Vj_getR (q := 16) flX0_15 hq.1 rfl dX0_addThing_13 rfl ?_
  refine Vj_aloadn (q := 17) dX0_addThing_16 rfl rfl rfl ?_
  refine Vj_getI (q := 20) flX0_27 hq.1 rfl dX0_addThing_17 rfl ?_
  rw [uI_ne (show q ≠ q + 1 by omega), h0]
  refine Vj_iloadn (q := 21) dX0_addThing_20 rfl rfl rfl ?_
  refine Vj_callSv (q := 24) (qX9_putn hq.2.2.1 (by decide) hn y) (by decide) lkX0_31 stX9_put okX9_put dX0_addThing_21 rfl rfl (Nat.le_of_ble_eq_true rfl) ?_
  refine Vj_aloadn (q := 25) dX0_addThing_24 rfl rfl rfl ?_
  refine Vj_dup (q := 26) dX0_addThing_25 rfl rfl ?_
  refine Vj_getI (q := 29) flX0_27 hq.1 rfl dX0_addThing_26 rfl ?_
  rw [uI_ne (show q ≠ q + 2 by omega), uI_ne (show q ≠ q + 1 by omega), h0]
  refine Vj_iconst (q := 30) (v := 1) dX0_addThing_29 rfl (by decide) ?_
  refine Vj_iadd (q := 31) dX0_addThing_30 rfl ?_
  rw [nI_1]
  refine Vj_putI (q := 34) flX0_27 hq.1 rfl dX0_addThing_31 rfl ?_
  exact Vr_vret rfl dX0_addThing_34 (⟨rfl, rfl⟩)
set_option maxRecDepth 100000 in
theorem qX0_addButton {σ : Mem} {q n : Nat} (hq : PSh q) (hn : n < 6) (h0 : σ.1 q 1 = nI n) (x y z : Int32) : Ct shX 1 mX0_addButton [.ref q, .int x, .int y, .int z] σ (Rv (mB q n x y z σ)) := by
  refine Ct.of (by decide) (Nat.le_of_ble_eq_true rfl) (l := [some (.ref q), some (.int x), some (.int y), some (.int z)]) rfl ?_
  refine Vj_aloadn (q := 1) dX0_addButton_0 rfl rfl rfl ?_
  refine Vj_getR (q := 4) flX0_18 hq.1 rfl dX0_addButton_1 rfl ?_
  refine Vj_aloadn (q := 5) dX0_addButton_4 rfl rfl rfl ?_
  refine Vj_getI (q := 8) flX0_35 hq.1 rfl dX0_addButton_5 rfl ?_
  rw [h0]
  refine Vj_iloadn (q := 9) dX0_addButton_8 rfl rfl rfl ?_
  refine Vj_callSv (q := 12) (qX9_putn hq.2.2.2.1 (by decide) hn x) (by decide) lkX0_31 stX9_put okX9_put dX0_addButton_9 rfl rfl (Nat.le_of_ble_eq_true rfl) ?_
  refine Vj_aloadn (q := 13) dX0_addButton_12 rfl rfl rfl ?_
  refine Vj_getR (q := 16) flX0_21 hq.1 rfl dX0_addButton_13 rfl ?_
  refine Vj_aloadn (q := 17) dX0_addButton_16 rfl rfl rfl ?_
  refine Vj_getI (q := 20) flX0_35 hq.1 rfl dX0_addButton_17 rfl ?_
  rw [uI_ne (show q ≠ q + 3 by omega), h0]
  refine Vj_iloadn (q := 21) dX0_addButton_20 rfl rfl rfl ?_
  refine Vj_callSv (q := 24) (qX9_putn hq.2.2.2.2.1 (by decide) hn y) (by decide) lkX0_31 stX9_put okX9_put dX0_addButton_21 rfl rfl (Nat.le_of_ble_eq_true rfl) ?_
  refine Vj_aloadn (q := 25) dX0_addButton_24 rfl rfl rfl ?_
  refine Vj_getR (q := 28) flX0_24 hq.1 rfl dX0_addButton_25 rfl ?_
  refine Vj_aloadn (q := 29) dX0_addButton_28 rfl rfl rfl ?_
  refine Vj_getI (q := 32) flX0_35 hq.1 rfl dX0_addButton_29 rfl ?_
  rw [uI_ne (show q ≠ q + 4 by omega), uI_ne (show q ≠ q + 3 by omega), h0]
  refine Vj_iloadn (q := 33) dX0_addButton_32 rfl rfl rfl ?_
  refine Vj_callSv (q := 36) (qX9_putn hq.2.2.2.2.2 (by decide) hn z) (by decide) lkX0_31 stX9_put okX9_put dX0_addButton_33 rfl rfl (Nat.le_of_ble_eq_true rfl) ?_
  refine Vj_aloadn (q := 37) dX0_addButton_36 rfl rfl rfl ?_
  refine Vj_dup (q := 38) dX0_addButton_37 rfl rfl ?_
  refine Vj_getI (q := 41) flX0_35 hq.1 rfl dX0_addButton_38 rfl ?_
  rw [uI_ne (show q ≠ q + 5 by omega), uI_ne (show q ≠ q + 4 by omega), uI_ne (show q ≠ q + 3 by omega), h0]
  refine Vj_iconst (q := 42) (v := 1) dX0_addButton_41 rfl (by decide) ?_
  refine Vj_iadd (q := 43) dX0_addButton_42 rfl ?_
  rw [nI_1]
  refine Vj_putI (q := 46) flX0_35 hq.1 rfl dX0_addButton_43 rfl ?_
  exact Vr_vret rfl dX0_addButton_46 (⟨rfl, rfl⟩)
/-- behind a copy -/
def CpP (L F : List Nat) (B : List (Nat × Nat × Nat)) (σ0 : Mem) : Option Value → Mem → Prop := fun r σ' => r = none ∧ PD 11 L F B σ' ∧ Eqo [11, 12, 13, 14, 15, 16] σ0 σ'
theorem take_s {α : Type} {L : List α} {d : α} {t : Nat} (h : t < L.length) : L.take (t + 1) = L.take t ++ [L.getD t d] := by
  rw [List.take_succ, List.getD, List.getElem?_eq_getElem h]; rfl
theorem Eqo.mT {S : List Nat} {σ σ' : Mem} {q n : Nat} {x y : Int32} (h : Eqo S σ σ') (h0 : S.contains q = true) (h1 : S.contains (q + 1) = true) (h2 : S.contains (q + 2) = true) : Eqo S σ (mT q n x y σ') := ((h.u h1).u h2).u h0
theorem Eqo.mB {S : List Nat} {σ σ' : Mem} {q n : Nat} {x y z : Int32} (h : Eqo S σ σ') (h0 : S.contains q = true) (h1 : S.contains (q + 3) = true) (h2 : S.contains (q + 4) = true) (h3 : S.contains (q + 5) = true) : Eqo S σ (mB q n x y z σ') := (((h.u h1).u h2).u h3).u h0
theorem Eqo.p {S : List Nat} {σ σ' : Mem} {p : Nat} (h : Eqo S σ σ') (hS : ∀ q ∈ S, 11 ≤ q ∧ q ≤ 16) (hp : p < 11 ∨ 16 < p) : σ'.1 p = σ.1 p := h.1 p fun z => by have := hS p z; omega

set_option maxRecDepth 100000 in
theorem qX0_copy_l2 {L F : List Nat} {B : List (Nat × Nat × Nat)} {σ0 : Mem} {p : Nat} (hp : PSh p) (hpp : p + 5 < 11 ∨ 16 < p) (hL : L.length < 5) (hF : F.length = L.length) (hB : B.length < 7) (hT : PD p L F B σ0) : ∀ k b (σ : Mem), b + k = B.length → PD 11 L F (B.take b) σ → Eqo [11, 12, 13, 14, 15, 16] σ0 σ → Vj shX 2 mX0_copy (CpP L F B σ0) 48 [some (.ref 11), some (.ref p), some (.int (nI b))] [] σ := by
  intro k
  induction k with
  | zero =>
    intro b σ hb hD hE
    have e0 := hE.p (fun q hq => by simp at hq; omega) (show p < 11 ∨ 16 < p by omega)
    refine Vj_iloadn (q := 49) dX0_copy_48 rfl rfl rfl ?_
    refine Vj_aloadn (q := 50) dX0_copy_49 rfl rfl rfl ?_
    refine Vj_getI (q := 53) flX0_35 hp.1 rfl dX0_copy_50 rfl ?_
    rw [e0, hT.2.1]
    refine Vj_icmp_ge (q := 56) (tgt := 90) dX0_copy_53 (by decide) rfl (fun _ => ?_) (fun hz => absurd (nI_le (by omega) (by omega)) hz)
    exact Vr_vret rfl dX0_copy_90 (⟨rfl, by rw [List.take_of_length_le (by omega)] at hD; exact hD, hE⟩)
  | succ k ih =>
    intro b σ hb hD hE
    have hbl : b < B.length := by omega
    have e0 := hE.p (fun q hq => by simp at hq; omega) (show p < 11 ∨ 16 < p by omega)
    have e3 := hE.p (fun q hq => by simp at hq; omega) (show p + 3 < 11 ∨ 16 < p + 3 by omega)
    have e4 := hE.p (fun q hq => by simp at hq; omega) (show p + 4 < 11 ∨ 16 < p + 4 by omega)
    have e5 := hE.p (fun q hq => by simp at hq; omega) (show p + 5 < 11 ∨ 16 < p + 5 by omega)
    obtain ⟨g3, g4, g5⟩ := hT.2.2.2 b hbl
    have hlen : (B.take b).length = b := by rw [List.length_take]; omega
    refine Vj_iloadn (q := 49) dX0_copy_48 rfl rfl rfl ?_
    refine Vj_aloadn (q := 50) dX0_copy_49 rfl rfl rfl ?_
    refine Vj_getI (q := 53) flX0_35 hp.1 rfl dX0_copy_50 rfl ?_
    rw [e0, hT.2.1]
    refine Vj_icmp_ge (q := 56) (tgt := 90) dX0_copy_53 (by decide) rfl (fun hz => absurd hz (nI_ge (by omega) (by omega))) (fun _ => ?_)
    refine Vj_aloadn (q := 57) dX0_copy_56 rfl rfl rfl ?_
    refine Vj_aloadn (q := 58) dX0_copy_57 rfl rfl rfl ?_
    refine Vj_getR (q := 61) flX0_18 hp.1 rfl dX0_copy_58 rfl ?_
    refine Vj_iloadn (q := 62) dX0_copy_61 rfl rfl rfl ?_
    refine Vj_callSi (q := 65) (qX9_atn hp.2.2.2.1 (by decide) (j := b) (by omega)) (by decide) lkX0_38 stX9_at okX9_at dX0_copy_62 rfl rfl (Nat.le_of_ble_eq_true rfl) ?_
    rw [e3, g3]
    refine Vj_aloadn (q := 66) dX0_copy_65 rfl rfl rfl ?_
    refine Vj_getR (q := 69) flX0_21 hp.1 rfl dX0_copy_66 rfl ?_
    refine Vj_iloadn (q := 70) dX0_copy_69 rfl rfl rfl ?_
    refine Vj_callSi (q := 73) (qX9_atn hp.2.2.2.2.1 (by decide) (j := b) (by omega)) (by decide) lkX0_38 stX9_at okX9_at dX0_copy_70 rfl rfl (Nat.le_of_ble_eq_true rfl) ?_
    rw [e4, g4]
    refine Vj_aloadn (q := 74) dX0_copy_73 rfl rfl rfl ?_
    refine Vj_getR (q := 77) flX0_24 hp.1 rfl dX0_copy_74 rfl ?_
    refine Vj_iloadn (q := 78) dX0_copy_77 rfl rfl rfl ?_
    refine Vj_callSi (q := 81) (qX9_atn hp.2.2.2.2.2 (by decide) (j := b) (by omega)) (by decide) lkX0_38 stX9_at okX9_at dX0_copy_78 rfl rfl (Nat.le_of_ble_eq_true rfl) ?_
    rw [e5, g5]
    refine Vj_callVv (q := 84) (qX0_addButton PSh_11 (n := b) (by omega) (by rw [hD.2.1, hlen]) _ _ _) (by decide) rfl rfl lkX0_46 viX0_addButton okX0_addButton dX0_copy_81 rfl rfl (Nat.le_of_ble_eq_true rfl) ?_
    refine Vs_iinc2 (q := 87) (z := none) dX0_copy_84 rfl (by exact iinc_p _) (by decide) rfl ?_
    refine Vj_goto (q := 48) dX0_copy_87 (by decide) ?_
    rw [nI_1]
    have hn := hD.addB (u := B.getD b (0, 0, 0))
    rw [hlen, ← take_s hbl] at hn
    exact ih (b + 1) _ (by omega) hn (hE.mB rfl rfl rfl rfl)
set_option maxRecDepth 100000 in
theorem qX0_copy_l1 {L F : List Nat} {B : List (Nat × Nat × Nat)} {σ0 : Mem} {p : Nat} (hp : PSh p) (hpp : p + 5 < 11 ∨ 16 < p) (hL : L.length < 5) (hF : F.length = L.length) (hB : B.length < 7) (hT : PD p L F B σ0) : ∀ k b (σ : Mem), b + k = L.length → PD 11 (L.take b) (F.take b) [] σ → Eqo [11, 12, 13, 14, 15, 16] σ0 σ → Vj shX 2 mX0_copy (CpP L F B σ0) 12 [some (.ref 11), some (.ref p), some (.int (nI b))] [] σ := by
  intro k
  induction k with
  | zero =>
    intro b σ hb hD hE
    have e0 := hE.p (fun q hq => by simp at hq; omega) (show p < 11 ∨ 16 < p by omega)
    refine Vj_iloadn (q := 13) dX0_copy_12 rfl rfl rfl ?_
    refine Vj_aloadn (q := 14) dX0_copy_13 rfl rfl rfl ?_
    refine Vj_getI (q := 17) flX0_27 hp.1 rfl dX0_copy_14 rfl ?_
    rw [e0, hT.1]
    refine Vj_icmp_ge (q := 20) (tgt := 46) dX0_copy_17 (by decide) rfl (fun _ => ?_) (fun hz => absurd (nI_le (by omega) (by omega)) hz)
    refine Vj_iconst (q := 47) (v := 0) dX0_copy_46 rfl (by decide) ?_
    refine Vs_istore2 (q := 48) dX0_copy_47 rfl (by decide) rfl ?_
    rw [List.take_of_length_le (by omega), List.take_of_length_le (by omega)] at hD
    exact qX0_copy_l2 hp hpp hL hF hB hT B.length 0 σ (by omega) hD hE
  | succ k ih =>
    intro b σ hb hD hE
    have hbl : b < L.length := by omega
    have e0 := hE.p (fun q hq => by simp at hq; omega) (show p < 11 ∨ 16 < p by omega)
    have e1 := hE.p (fun q hq => by simp at hq; omega) (show p + 1 < 11 ∨ 16 < p + 1 by omega)
    have e2 := hE.p (fun q hq => by simp at hq; omega) (show p + 2 < 11 ∨ 16 < p + 2 by omega)
    obtain ⟨g1, g2⟩ := hT.2.2.1 b hbl
    have hlen : (L.take b).length = b := by rw [List.length_take]; omega
    refine Vj_iloadn (q := 13) dX0_copy_12 rfl rfl rfl ?_
    refine Vj_aloadn (q := 14) dX0_copy_13 rfl rfl rfl ?_
    refine Vj_getI (q := 17) flX0_27 hp.1 rfl dX0_copy_14 rfl ?_
    rw [e0, hT.1]
    refine Vj_icmp_ge (q := 20) (tgt := 46) dX0_copy_17 (by decide) rfl (fun hz => absurd hz (nI_ge (by omega) (by omega))) (fun _ => ?_)
    refine Vj_aloadn (q := 21) dX0_copy_20 rfl rfl rfl ?_
    refine Vj_aloadn (q := 22) dX0_copy_21 rfl rfl rfl ?_
    refine Vj_getR (q := 25) flX0_9 hp.1 rfl dX0_copy_22 rfl ?_
    refine Vj_iloadn (q := 26) dX0_copy_25 rfl rfl rfl ?_
    refine Vj_callSi (q := 29) (qX9_atn hp.2.1 (by decide) (j := b) (by omega)) (by decide) lkX0_38 stX9_at okX9_at dX0_copy_26 rfl rfl (Nat.le_of_ble_eq_true rfl) ?_
    rw [e1, g1]
    refine Vj_aloadn (q := 30) dX0_copy_29 rfl rfl rfl ?_
    refine Vj_getR (q := 33) flX0_15 hp.1 rfl dX0_copy_30 rfl ?_
    refine Vj_iloadn (q := 34) dX0_copy_33 rfl rfl rfl ?_
    refine Vj_callSi (q := 37) (qX9_atn hp.2.2.1 (by decide) (j := b) (by omega)) (by decide) lkX0_38 stX9_at okX9_at dX0_copy_34 rfl rfl (Nat.le_of_ble_eq_true rfl) ?_
    rw [e2, g2]
    refine Vj_callVv (q := 40) (qX0_addThing PSh_11 (n := b) (by omega) (by rw [hD.1, hlen]) _ _) (by decide) rfl rfl lkX0_42 viX0_addThing okX0_addThing dX0_copy_37 rfl rfl (Nat.le_of_ble_eq_true rfl) ?_
    refine Vs_iinc2 (q := 43) (z := none) dX0_copy_40 rfl (by exact iinc_p _) (by decide) rfl ?_
    refine Vj_goto (q := 12) dX0_copy_43 (by decide) ?_
    rw [nI_1]
    have hn := hD.addT (s := L.getD b 0) (i := F.getD b 0) (by rw [List.length_take, List.length_take]; omega)
    rw [hlen, ← take_s hbl, ← take_s (show b < F.length by omega)] at hn
    exact ih (b + 1) _ (by omega) hn (hE.mT rfl rfl rfl)
set_option maxRecDepth 100000 in
theorem qX0_copy {L F : List Nat} {B : List (Nat × Nat × Nat)} {σ : Mem} {p : Nat} (hp : PSh p) (hpp : p + 5 < 11 ∨ 16 < p) (hL : L.length < 5) (hF : F.length = L.length) (hB : B.length < 7) (hT : PD p L F B σ) : Ct shX 2 mX0_copy [.ref 11, .ref p] σ (CpP L F B σ) := by
  refine Ct.of (by decide) (Nat.le_of_ble_eq_true rfl) (l := [some (.ref 11), some (.ref p), none]) rfl ?_
  refine Vj_aloadn (q := 1) dX0_copy_0 rfl rfl rfl ?_
  refine Vj_iconst (q := 2) (v := 0) dX0_copy_1 rfl (by decide) ?_
  refine Vj_putI (q := 5) flX0_27 rfl rfl dX0_copy_2 rfl ?_
  refine Vj_aloadn (q := 6) dX0_copy_5 rfl rfl rfl ?_
  refine Vj_iconst (q := 7) (v := 0) dX0_copy_6 rfl (by decide) ?_
  refine Vj_putI (q := 10) flX0_35 rfl rfl dX0_copy_7 rfl ?_
  refine Vj_iconst (q := 11) (v := 0) dX0_copy_10 rfl (by decide) ?_
  refine Vs_istore2 (q := 12) dX0_copy_11 rfl (by decide) rfl ?_
  refine qX0_copy_l1 hp hpp hL hF hB hT L.length 0 _ (by omega) ⟨?_, ?_, fun t ht => ?_, fun b hb => ?_⟩ ((Eqo.rf.u rfl).u rfl)
  · simp [uI, upd, nI_0]
  · simp [uI, upd, nI_0]
  · simp at ht
  · simp at hb
/-- the code of the first states -/
def cFi (n : Nat) (F : Nat → Nat) : Nat → Nat
  | 0 => 0
  | k + 1 => cW n (cFi n F k) k (F k)
theorem cFi_lt {n : Nat} (hn : n < 5) {F : Nat → Nat} (hF : ∀ t, t < n → F t < 4) : ∀ k, k ≤ n → cFi n F k < 4 ^ n
  | 0, _ => p4_pos n
  | k + 1, h => cW_lt n hn _ (cFi_lt hn hF k (by omega)) k (by omega) _ (hF k (by omega))
/-- the code of a mess that is told as figures -/
def cOf (ρ : Rm) : Nat → Int32 → Nat → Option Nat
  | 0, left, c => if left = 0 then some c else none
  | k + 1, left, c => if left % 10 < 0 ∨ nI (rS ρ k) ≤ left % 10 then none else cOf ρ k (left / 10) (cW (rN ρ) c k (left % 10).toNatClampNeg)
def oI : Option Nat → Int32
  | some c => nI c
  | none => -1
theorem dig_of {n : Nat} (hn : n < 2 ^ 31) {x : Int32} (h1 : ¬ x < 0) (h2 : x < nI n) : ∃ j, j < n ∧ x = nI j := by
  obtain ⟨j, hj, rfl⟩ := nI_of h1
  exact ⟨j, (nI_ltI hj hn).mp h2, rfl⟩

set_option maxRecDepth 100000 in
theorem qX2_firstCode_loop {ρ : Rm} {σ : Mem} (h : RP ρ σ) {F : Nat → Nat} (hF : ∀ t, t < rN ρ → F t < 4) (hf : ∀ t, t < rN ρ → σ.1 13 t = nI (F t)) : ∀ k t : Nat, t + k = rN ρ → Vj shX 2 mX2_firstCode (Ri (nI (cFi (rN ρ) F (rN ρ))) σ) 4 [some (.ref 10), some (.int (nI (cFi (rN ρ) F t))), some (.int (nI t))] [] σ := by
  intro k
  induction k with
  | zero =>
    intro t ht
    have hn := h.1.1
    obtain rfl : t = rN ρ := by omega
    refine Vj_iloadn (q := 5) dX2_firstCode_4 rfl rfl rfl ?_
    refine Vj_aloadn (q := 6) dX2_firstCode_5 rfl rfl rfl ?_
    refine Vj_getR (q := 9) flX2_12 rfl rfl dX2_firstCode_6 rfl ?_
    refine Vj_getI (q := 12) flX2_32 rfl rfl dX2_firstCode_9 rfl ?_
    rw [h.2.1]
    refine Vj_icmp_ge (q := 15) (tgt := 39) dX2_firstCode_12 (by decide) rfl (fun _ => ?_) (fun hz => absurd (nI_le (Nat.le_refl _) (by omega)) hz)
    refine Vj_iloadn (q := 40) dX2_firstCode_39 rfl rfl rfl ?_
    exact Vr_iret rfl rfl dX2_firstCode_40 (⟨rfl, rfl⟩)
  | succ k ih =>
    intro t ht
    have hn := h.1.1
    have hp4 := p4_le hn
    have hc := cFi_lt hn hF t (by omega)
    refine Vj_iloadn (q := 5) dX2_firstCode_4 rfl rfl rfl ?_
    refine Vj_aloadn (q := 6) dX2_firstCode_5 rfl rfl rfl ?_
    refine Vj_getR (q := 9) flX2_12 rfl rfl dX2_firstCode_6 rfl ?_
    refine Vj_getI (q := 12) flX2_32 rfl rfl dX2_firstCode_9 rfl ?_
    rw [h.2.1]
    refine Vj_icmp_ge (q := 15) (tgt := 39) dX2_firstCode_12 (by decide) rfl (fun hz => absurd hz (nI_ge (by omega) (by omega))) (fun _ => ?_)
    refine Vj_aloadn (q := 16) dX2_firstCode_15 rfl rfl rfl ?_
    refine Vj_iloadn (q := 17) dX2_firstCode_16 rfl rfl rfl ?_
    refine Vj_iloadn (q := 18) dX2_firstCode_17 rfl rfl rfl ?_
    refine Vj_aloadn (q := 19) dX2_firstCode_18 rfl rfl rfl ?_
    refine Vj_getR (q := 22) flX2_12 rfl rfl dX2_firstCode_19 rfl ?_
    refine Vj_getR (q := 25) flX2_87 rfl rfl dX2_firstCode_22 rfl ?_
    refine Vj_iloadn (q := 26) dX2_firstCode_25 rfl rfl rfl ?_
    refine Vj_callSi (q := 29) (qX9_atn rfl (by decide) (j := t) (by omega)) (by decide) lkX2_64 stX9_at okX9_at dX2_firstCode_26 rfl rfl (Nat.le_of_ble_eq_true rfl) ?_
    rw [hf t (by omega)]
    refine Vj_callVi (q := 32) (qX2_with h (by omega) (by omega) (hF t (by omega))) (by decide) rfl rfl lkX2_74 viX2_with okX2_with dX2_firstCode_29 rfl rfl (Nat.le_of_ble_eq_true rfl) ?_
    refine Vs_istore1 (q := 33) dX2_firstCode_32 rfl (by decide) rfl ?_
    refine Vs_iinc2 (q := 36) (z := none) dX2_firstCode_33 rfl (by exact iinc_p _) (by decide) rfl ?_
    refine Vj_goto (q := 4) dX2_firstCode_36 (by decide) ?_
    rw [nI_1]
    exact ih (t + 1) (by omega)
set_option maxRecDepth 100000 in
theorem qX2_firstCode {ρ : Rm} {σ : Mem} (h : RP ρ σ) {F : Nat → Nat} (hF : ∀ t, t < rN ρ → F t < 4) (hf : ∀ t, t < rN ρ → σ.1 13 t = nI (F t)) : Ct shX 2 mX2_firstCode [.ref 10] σ (Ri (nI (cFi (rN ρ) F (rN ρ))) σ) := by
  refine Ct.of (by decide) (Nat.le_of_ble_eq_true rfl) (l := [some (.ref 10), none, none]) rfl ?_
  refine Vj_iconst (q := 1) (v := 0) dX2_firstCode_0 rfl (by decide) ?_
  refine Vs_istore1 (q := 2) dX2_firstCode_1 rfl (by decide) rfl ?_
  refine Vj_iconst (q := 3) (v := 0) dX2_firstCode_2 rfl (by decide) ?_
  refine Vs_istore2 (q := 4) dX2_firstCode_3 rfl (by decide) rfl ?_
  exact qX2_firstCode_loop h hF hf (rN ρ) 0 (by omega)
set_option maxRecDepth 100000 in
theorem qX2_codeOf_loop {ρ : Rm} {σ : Mem} (h : RP ρ σ) (m : Int32) : ∀ (k c : Nat) (left : Int32) (z : Option Value), k ≤ rN ρ → c < 4 ^ rN ρ → Vj shX 2 mX2_codeOf (Ri (oI (cOf ρ k left c)) σ) 15 [some (.ref 10), some (.int m), some (.int left), some (.int (nI c)), some (.int (nI k - 1)), z] [] σ := by
  intro k
  induction k with
  | zero =>
    intro c left z ht hc
    have hn := h.1.1
    rw [cOf]
    refine Vj_iload (q := 17) dX2_codeOf_15 rfl rfl ?_
    refine Vj_if_lt (q := 20) (tgt := 65) dX2_codeOf_17 (by decide) rfl (fun _ => ?_) (fun hz => absurd (by decide) hz)
    refine Vj_iloadn (q := 66) dX2_codeOf_65 rfl rfl rfl ?_
    refine Vj_if_ne (q := 69) (tgt := 73) dX2_codeOf_66 (by decide) rfl (fun h66 => ?_) (fun h66 => ?_)
    ·
      refine Vj_iconst (q := 74) (v := (-1)) dX2_codeOf_73 rfl (by decide) ?_
      exact Vr_iret rfl rfl dX2_codeOf_74 (⟨by rw [if_neg h66]; rfl, rfl⟩)
    ·
      refine Vj_iloadn (q := 70) dX2_codeOf_69 rfl rfl rfl ?_
      refine Vj_goto (q := 74) dX2_codeOf_70 (by decide) ?_
      exact Vr_iret rfl rfl dX2_codeOf_74 (⟨by rw [if_pos h66]; rfl, rfl⟩)
  | succ k ih =>
    intro c left z ht hc
    have hn := h.1.1
    have hp4 := p4_le hn
    have hz := h.1.2.1 k (by omega)
    rw [nI_pred, cOf]
    refine Vj_iload (q := 17) dX2_codeOf_15 rfl rfl ?_
    refine Vj_if_lt (q := 20) (tgt := 65) dX2_codeOf_17 (by decide) rfl (fun hz => absurd hz (nI_pos (by omega))) (fun _ => ?_)
    refine Vj_iloadn (q := 21) dX2_codeOf_20 rfl rfl rfl ?_
    refine Vj_bipush (q := 23) (v := 10) dX2_codeOf_21 rfl (by decide) ?_
    refine Vj_irem (q := 24) dX2_codeOf_23 rfl (by decide) ?_
    refine Vs_istore5 (q := 26) dX2_codeOf_24 rfl (by decide) rfl ?_
    refine Vj_iload (q := 28) dX2_codeOf_26 rfl rfl ?_
    refine Vj_if_lt (q := 31) (tgt := 42) dX2_codeOf_28 (by decide) rfl (fun h28 => ?_) (fun h28 => ?_)
    ·
      refine Vj_iconst (q := 43) (v := (-1)) dX2_codeOf_42 rfl (by decide) ?_
      exact Vr_iret rfl rfl dX2_codeOf_43 (⟨by rw [if_pos (Or.inl h28)]; rfl, rfl⟩)
    ·
      refine Vj_iload (q := 33) dX2_codeOf_31 rfl rfl ?_
      refine Vj_aloadn (q := 34) dX2_codeOf_33 rfl rfl rfl ?_
      refine Vj_iload (q := 36) dX2_codeOf_34 rfl rfl ?_
      refine Vj_callVi (q := 39) (qX2_statesOf h (by omega)) (by decide) rfl rfl lkX2_47 viX2_statesOf okX2_statesOf dX2_codeOf_36 rfl rfl (Nat.le_of_ble_eq_true rfl) ?_
      refine Vj_icmp_lt (q := 42) (tgt := 44) dX2_codeOf_39 (by decide) rfl (fun h39 => ?_) (fun h39 => ?_)
      ·
        obtain ⟨j, hj, ej⟩ := dig_of (by omega) h28 h39
        rw [if_neg (by rintro (z | z); exact h28 z; exact Int32.not_le.mpr h39 z), ej, nI_clamp (by omega)]
        refine Vj_aloadn (q := 45) dX2_codeOf_44 rfl rfl rfl ?_
        refine Vj_iloadn (q := 46) dX2_codeOf_45 rfl rfl rfl ?_
        refine Vj_iload (q := 48) dX2_codeOf_46 rfl rfl ?_
        refine Vj_iload (q := 50) dX2_codeOf_48 rfl rfl ?_
        refine Vj_callVi (q := 53) (qX2_with h (by omega) (by omega) (by omega)) (by decide) rfl rfl lkX2_74 viX2_with okX2_with dX2_codeOf_50 rfl rfl (Nat.le_of_ble_eq_true rfl) ?_
        refine Vs_istore3 (q := 54) dX2_codeOf_53 rfl (by decide) rfl ?_
        refine Vj_iloadn (q := 55) dX2_codeOf_54 rfl rfl rfl ?_
        refine Vj_bipush (q := 57) (v := 10) dX2_codeOf_55 rfl (by decide) ?_
        refine Vj_idiv (q := 58) dX2_codeOf_57 rfl (by decide) ?_
        refine Vs_istore2 (q := 59) dX2_codeOf_58 rfl (by decide) rfl ?_
        refine Vs_iinc4 (q := 62) (z := none) dX2_codeOf_59 rfl (by exact iinc_m _) (by decide) rfl ?_
        refine Vj_goto (q := 15) dX2_codeOf_62 (by decide) ?_
        exact ih _ _ _ (by omega) (cW_lt _ hn c hc k (by omega) j (by omega))
      ·
        refine Vj_iconst (q := 43) (v := (-1)) dX2_codeOf_42 rfl (by decide) ?_
        exact Vr_iret rfl rfl dX2_codeOf_43 (⟨by rw [if_pos (Or.inr (Int32.not_lt.mp h39))]; rfl, rfl⟩)
set_option maxRecDepth 100000 in
theorem qX2_codeOf {ρ : Rm} {σ : Mem} (h : RP ρ σ) (m : Int32) : Ct shX 2 mX2_codeOf [.ref 10, .int m] σ (Ri (oI (cOf ρ (rN ρ) m 0)) σ) := by
  refine Ct.of (by decide) (Nat.le_of_ble_eq_true rfl) (l := [some (.ref 10), some (.int m), none, none, none, none]) rfl ?_
  refine Vj_iloadn (q := 1) dX2_codeOf_0 rfl rfl rfl ?_
  refine Vs_istore2 (q := 2) dX2_codeOf_1 rfl (by decide) rfl ?_
  refine Vj_iconst (q := 3) (v := 0) dX2_codeOf_2 rfl (by decide) ?_
  refine Vs_istore3 (q := 4) dX2_codeOf_3 rfl (by decide) rfl ?_
  refine Vj_aloadn (q := 5) dX2_codeOf_4 rfl rfl rfl ?_
  refine Vj_getR (q := 8) flX2_12 rfl rfl dX2_codeOf_5 rfl ?_
  refine Vj_getI (q := 11) flX2_32 rfl rfl dX2_codeOf_8 rfl ?_
  rw [h.2.1]
  refine Vj_iconst (q := 12) (v := 1) dX2_codeOf_11 rfl (by decide) ?_
  refine Vj_isub (q := 13) dX2_codeOf_12 rfl ?_
  refine Vs_istore4 (q := 15) dX2_codeOf_13 rfl (by decide) rfl ?_
  exact qX2_codeOf_loop h m (rN ρ) 0 m none (Nat.le_refl _) (p4_pos _)
def cOkk (ρ : Rm) (c : Nat) : Nat → Bool
  | 0 => true
  | k + 1 => cOkk ρ c k && decide (cS (rN ρ) c k < rS ρ k)
theorem cOkk_iff {ρ : Rm} {c : Nat} : ∀ k, cOkk ρ c k = true ↔ ∀ t, t < k → cS (rN ρ) c t < rS ρ t
  | 0 => by simp [cOkk]
  | k + 1 => by
    rw [cOkk, Bool.and_eq_true, cOkk_iff k, decide_eq_true_iff]
    constructor
    · rintro ⟨h1, h2⟩ t ht
      rcases Nat.lt_succ_iff_lt_or_eq.mp ht with h | rfl
      · exact h1 t h
      · exact h2
    · intro h
      exact ⟨fun t ht => h t (by omega), h k (by omega)⟩
theorem cOkk_n {ρ : Rm} {c : Nat} : cOkk ρ c (rN ρ) = cOk ρ c := by
  rw [Bool.eq_iff_iff, cOkk_iff, cOk_iff]
theorem i_or1 : ∀ t, t < 4 → ∀ l, l < 16 → (nI l ||| ((1 : Int32) <<< (nI t &&& 31))) = nI (l ||| 1 <<< t) := by decide +kernel
/-- the rows of a code's nexts, the first k buttons -/
def wNx (ρ : Rm) (c : Nat) : Nat → Mem → Mem
  | 0, σ => σ
  | k + 1, σ => uI (wNx ρ c k σ) 19 (c * 6 + k) (nI (cNx ρ c k))
theorem wNx_ne {ρ : Rm} {c q : Nat} {σ : Mem} (hq : q ≠ 19) : ∀ k, (wNx ρ c k σ).1 q = σ.1 q
  | 0 => rfl
  | k + 1 => by rw [wNx, uI_ne hq, wNx_ne hq k]
theorem wNx_at {ρ : Rm} {c : Nat} {σ : Mem} : ∀ k j, (wNx ρ c k σ).1 19 j = if c * 6 ≤ j ∧ j < c * 6 + k then nI (cNx ρ c (j - c * 6)) else σ.1 19 j
  | 0, j => by rw [wNx, if_neg (by omega)]
  | k + 1, j => by
    rw [wNx, uI_eq, upd, wNx_at k j]
    by_cases e : j = c * 6 + k
    · subst e
      rw [if_pos rfl, if_pos (by omega)]
      congr 2; omega
    · rw [if_neg e]
      by_cases e2 : c * 6 ≤ j ∧ j < c * 6 + k
      · rw [if_pos e2, if_pos (by omega)]
      · rw [if_neg e2, if_neg (by omega)]
theorem wNx_2 {ρ : Rm} {c : Nat} {σ : Mem} : ∀ k, (wNx ρ c k σ).2 = σ.2
  | 0 => rfl
  | k + 1 => by rw [wNx]; exact wNx_2 k
def tell (ρ : Rm) (c : Nat) (σ : Mem) : Mem := wNx ρ c (rB ρ) (uI (uI σ 17 c (if cOk ρ c then nI (cDg (rN ρ) c (rN ρ)) else -1)) 18 c (nI (cLi (rN ρ) c (rN ρ))))
theorem RP.wNx {ρ : Rm} {c k : Nat} {σ : Mem} (h : RP ρ σ) : RP ρ (wNx ρ c k σ) := h.of (wNx_ne (by decide) k) (wNx_ne (by decide) k) (wNx_ne (by decide) k) (wNx_ne (by decide) k) (wNx_ne (by decide) k)
theorem RP.uI {ρ : Rm} {q j : Nat} {x : Int32} {σ : Mem} (h : RP ρ σ) (hq : (q == 11 || q == 12 || q == 14 || q == 15 || q == 16) = false) : RP ρ (uI σ q j x) := by
  simp only [Bool.or_eq_false_iff, beq_eq_false_iff_ne] at hq
  exact h.of (uI_ne (by omega)) (uI_ne (by omega)) (uI_ne (by omega)) (uI_ne (by omega)) (uI_ne (by omega))

set_option maxRecDepth 100000 in
theorem qX2_tellCode_l2 {ρ : Rm} {σ : Mem} (h : RP ρ σ) {c : Nat} (hc : c < 4 ^ rN ρ) {z2 z3 z6 : Option Value} : ∀ k b : Nat, b + k = rB ρ → Vj shX 4 mX2_tellCode (Rv (wNx ρ c (rB ρ) σ)) 101 [some (.ref 10), some (.int (nI c)), z2, z3, some (.int (bI (cOk ρ c))), some (.int (nI b)), z6] [] (wNx ρ c b σ) := by
  intro k
  induction k with
  | zero =>
    intro b hb
    have hB := h.1.2.2.1
    have hR := RP.wNx (c := c) (k := b) h
    obtain rfl : b = rB ρ := by omega
    refine Vj_iload (q := 103) dX2_tellCode_101 rfl rfl ?_
    refine Vj_aloadn (q := 104) dX2_tellCode_103 rfl rfl rfl ?_
    refine Vj_getR (q := 107) flX2_12 rfl rfl dX2_tellCode_104 rfl ?_
    refine Vj_getI (q := 110) flX2_55 rfl rfl dX2_tellCode_107 rfl ?_
    rw [hR.2.2.1]
    refine Vj_icmp_ge (q := 113) (tgt := 149) dX2_tellCode_110 (by decide) rfl (fun _ => ?_) (fun hz => absurd (nI_le (Nat.le_refl _) (by omega)) hz)
    exact Vr_vret rfl dX2_tellCode_149 (⟨rfl, rfl⟩)
  | succ k ih =>
    intro b hb
    have hB := h.1.2.2.1
    have hp4 := p4_le h.1.1
    have hR := RP.wNx (c := c) (k := b) h
    refine Vj_iload (q := 103) dX2_tellCode_101 rfl rfl ?_
    refine Vj_aloadn (q := 104) dX2_tellCode_103 rfl rfl rfl ?_
    refine Vj_getR (q := 107) flX2_12 rfl rfl dX2_tellCode_104 rfl ?_
    refine Vj_getI (q := 110) flX2_55 rfl rfl dX2_tellCode_107 rfl ?_
    rw [hR.2.2.1]
    refine Vj_icmp_ge (q := 113) (tgt := 149) dX2_tellCode_110 (by decide) rfl (fun hz => absurd hz (nI_ge (by omega) (by omega))) (fun _ => ?_)
    refine Vj_aloadn (q := 114) dX2_tellCode_113 rfl rfl rfl ?_
    refine Vj_getR (q := 117) flX2_25 rfl rfl dX2_tellCode_114 rfl ?_
    refine Vj_iloadn (q := 118) dX2_tellCode_117 rfl rfl rfl ?_
    refine Vj_bipush (q := 120) (v := 6) dX2_tellCode_118 rfl (by decide) ?_
    refine Vj_imul (q := 121) dX2_tellCode_120 rfl ?_
    refine Vj_iload (q := 123) dX2_tellCode_121 rfl rfl ?_
    refine Vj_iadd (q := 124) dX2_tellCode_123 rfl ?_
    rw [show nI c * 6 + nI b = nI (c * 6 + b) by rw [show (6 : Int32) = nI 6 from rfl, pk_mul, nI_add]]
    refine Vj_iload (q := 126) dX2_tellCode_124 rfl rfl ?_
    refine Vj_if_eq (q := 129) (tgt := 139) dX2_tellCode_126 (by decide) rfl (fun h126 => ?_) (fun h126 => ?_)
    ·
      refine Vj_iloadn (q := 140) dX2_tellCode_139 rfl rfl rfl ?_
      refine Vj_callSv (q := 143) (qX9_putn rfl (by decide) (j := c * 6 + b) (by omega) _) (by decide) lkX2_51 stX9_put okX9_put dX2_tellCode_140 rfl rfl (Nat.le_of_ble_eq_true rfl) ?_
      refine Vs_iinc5 (q := 146) (z := none) dX2_tellCode_143 rfl (by exact iinc_p _) (by decide) rfl ?_
      refine Vj_goto (q := 101) dX2_tellCode_146 (by decide) ?_
      rw [nI_1]
      have e : cNx ρ c b = c := by rw [cNx, if_neg (by rw [bI_z.mp h126]; decide)]
      have hn := ih (b + 1) (by omega)
      rw [wNx, e] at hn
      exact hn
    ·
      refine Vj_aloadn (q := 130) dX2_tellCode_129 rfl rfl rfl ?_
      refine Vj_iloadn (q := 131) dX2_tellCode_130 rfl rfl rfl ?_
      refine Vj_iload (q := 133) dX2_tellCode_131 rfl rfl ?_
      refine Vj_callVi (q := 136) (qX2_done hR hc (by omega)) (by decide) rfl rfl lkX2_58 viX2_done okX2_done dX2_tellCode_133 rfl rfl (Nat.le_of_ble_eq_true rfl) ?_
      refine Vj_goto (q := 140) dX2_tellCode_136 (by decide) ?_
      refine Vj_callSv (q := 143) (qX9_putn rfl (by decide) (j := c * 6 + b) (by omega) _) (by decide) lkX2_51 stX9_put okX9_put dX2_tellCode_140 rfl rfl (Nat.le_of_ble_eq_true rfl) ?_
      refine Vs_iinc5 (q := 146) (z := none) dX2_tellCode_143 rfl (by exact iinc_p _) (by decide) rfl ?_
      refine Vj_goto (q := 101) dX2_tellCode_146 (by decide) ?_
      rw [nI_1]
      have e : cNx ρ c b = cDo ρ c b := by rw [cNx, if_pos (bI_n.mp h126)]
      have hn := ih (b + 1) (by omega)
      rw [wNx, e] at hn
      exact hn
set_option maxRecDepth 100000 in
theorem qX2_tellCode_t {ρ : Rm} {σ : Mem} (h : RP ρ σ) {c : Nat} (hc : c < 4 ^ rN ρ) {z2 z5 z6 : Option Value} (v x : Int32) (hx : x = nI (cLi (rN ρ) c (rN ρ))) : Vj shX 4 mX2_tellCode (Rv (wNx ρ c (rB ρ) (uI (uI σ 17 c v) 18 c (nI (cLi (rN ρ) c (rN ρ)))))) 86 [some (.ref 10), some (.int (nI c)), z2, some (.int x), some (.int (bI (cOk ρ c))), z5, z6] [.int v, .int (nI c), .ref 17] σ := by
  subst hx
  have hp4 := p4_le h.1.1
  refine Vj_callSv (q := 89) (qX9_putn rfl (by decide) (j := c) (by omega) _) (by decide) lkX2_51 stX9_put okX9_put dX2_tellCode_86 rfl rfl (Nat.le_of_ble_eq_true rfl) ?_
  refine Vj_aloadn (q := 90) dX2_tellCode_89 rfl rfl rfl ?_
  refine Vj_getR (q := 93) flX2_22 rfl rfl dX2_tellCode_90 rfl ?_
  refine Vj_iloadn (q := 94) dX2_tellCode_93 rfl rfl rfl ?_
  refine Vj_iloadn (q := 95) dX2_tellCode_94 rfl rfl rfl ?_
  refine Vj_callSv (q := 98) (qX9_putn rfl (by decide) (j := c) (by omega) _) (by decide) lkX2_51 stX9_put okX9_put dX2_tellCode_95 rfl rfl (Nat.le_of_ble_eq_true rfl) ?_
  refine Vj_iconst (q := 99) (v := 0) dX2_tellCode_98 rfl (by decide) ?_
  refine Vs_istore5 (q := 101) dX2_tellCode_99 rfl (by decide) rfl ?_
  exact qX2_tellCode_l2 ((h.uI rfl).uI rfl) hc (rB ρ) 0 (by omega)
set_option maxRecDepth 100000 in
theorem qX2_tellCode_l1 {ρ : Rm} {σ : Mem} (h : RP ρ σ) {c : Nat} (hc : c < 4 ^ rN ρ) : ∀ (k t : Nat) (z6 : Option Value), t + k = rN ρ → Vj shX 4 mX2_tellCode (Rv (tell ρ c σ)) 10 [some (.ref 10), some (.int (nI c)), some (.int (nI (cDg (rN ρ) c t))), some (.int (nI (cLi (rN ρ) c t))), some (.int (bI (cOkk ρ c t))), some (.int (nI t)), z6] [] σ := by
  intro k
  induction k with
  | zero =>
    intro t z6 ht
    have hn := h.1.1
    obtain rfl : t = rN ρ := by omega
    rw [cOkk_n]
    refine Vj_iload (q := 12) dX2_tellCode_10 rfl rfl ?_
    refine Vj_aloadn (q := 13) dX2_tellCode_12 rfl rfl rfl ?_
    refine Vj_getR (q := 16) flX2_12 rfl rfl dX2_tellCode_13 rfl ?_
    refine Vj_getI (q := 19) flX2_32 rfl rfl dX2_tellCode_16 rfl ?_
    rw [h.2.1]
    refine Vj_icmp_ge (q := 22) (tgt := 71) dX2_tellCode_19 (by decide) rfl (fun _ => ?_) (fun hz => absurd (nI_le (Nat.le_refl _) (by omega)) hz)
    refine Vj_aloadn (q := 72) dX2_tellCode_71 rfl rfl rfl ?_
    refine Vj_getR (q := 75) flX2_18 rfl rfl dX2_tellCode_72 rfl ?_
    refine Vj_iloadn (q := 76) dX2_tellCode_75 rfl rfl rfl ?_
    refine Vj_iload (q := 78) dX2_tellCode_76 rfl rfl ?_
    refine Vj_if_eq (q := 81) (tgt := 85) dX2_tellCode_78 (by decide) rfl (fun h78 => ?_) (fun h78 => ?_)
    ·
      refine Vj_iconst (q := 86) (v := (-1)) dX2_tellCode_85 rfl (by decide) ?_
      have e := bI_z.mp h78
      have ht := qX2_tellCode_t (z2 := some (.int (nI (cDg (rN ρ) c (rN ρ))))) (z5 := some (.int (nI (rN ρ)))) (z6 := z6) h hc (-1) (nI (cLi (rN ρ) c (rN ρ))) rfl
      rw [tell, if_neg (by rw [e]; decide)]
      exact ht
    ·
      refine Vj_iloadn (q := 82) dX2_tellCode_81 rfl rfl rfl ?_
      refine Vj_goto (q := 86) dX2_tellCode_82 (by decide) ?_
      have e := bI_n.mp h78
      have ht := qX2_tellCode_t (z2 := some (.int (nI (cDg (rN ρ) c (rN ρ))))) (z5 := some (.int (nI (rN ρ)))) (z6 := z6) h hc (nI (cDg (rN ρ) c (rN ρ))) (nI (cLi (rN ρ) c (rN ρ))) rfl
      rw [tell, if_pos e]
      exact ht
  | succ k ih =>
    intro t z6 ht
    have hn := h.1.1
    have hp4 := p4_le hn
    have hS := cS_lt (rN ρ) c t
    have hZ := h.1.2.1 t (by omega)
    have hl16 : cLi (rN ρ) c t < 16 := Nat.lt_of_lt_of_le (cLi_lt (rN ρ) c t) (Nat.pow_le_pow_right (by decide) (by omega) : 2 ^ t ≤ 2 ^ 4)
    have eD : cDg (rN ρ) c (t + 1) = cDg (rN ρ) c t * 10 + cS (rN ρ) c t := rfl
    refine Vj_iload (q := 12) dX2_tellCode_10 rfl rfl ?_
    refine Vj_aloadn (q := 13) dX2_tellCode_12 rfl rfl rfl ?_
    refine Vj_getR (q := 16) flX2_12 rfl rfl dX2_tellCode_13 rfl ?_
    refine Vj_getI (q := 19) flX2_32 rfl rfl dX2_tellCode_16 rfl ?_
    rw [h.2.1]
    refine Vj_icmp_ge (q := 22) (tgt := 71) dX2_tellCode_19 (by decide) rfl (fun hz => absurd hz (nI_ge (by omega) (by omega))) (fun _ => ?_)
    refine Vj_aloadn (q := 23) dX2_tellCode_22 rfl rfl rfl ?_
    refine Vj_iloadn (q := 24) dX2_tellCode_23 rfl rfl rfl ?_
    refine Vj_iload (q := 26) dX2_tellCode_24 rfl rfl ?_
    refine Vj_callVi (q := 29) (qX2_stateIn h (by omega) (by omega)) (by decide) rfl rfl lkX2_43 viX2_stateIn okX2_stateIn dX2_tellCode_26 rfl rfl (Nat.le_of_ble_eq_true rfl) ?_
    refine Vs_istore6 (q := 31) dX2_tellCode_29 rfl (by decide) rfl ?_
    refine Vj_iloadn (q := 32) dX2_tellCode_31 rfl rfl rfl ?_
    refine Vj_bipush (q := 34) (v := 10) dX2_tellCode_32 rfl (by decide) ?_
    refine Vj_imul (q := 35) dX2_tellCode_34 rfl ?_
    refine Vj_iload (q := 37) dX2_tellCode_35 rfl rfl ?_
    refine Vj_iadd (q := 38) dX2_tellCode_37 rfl ?_
    rw [show nI (cDg (rN ρ) c t) * 10 + nI (cS (rN ρ) c t) = nI (cDg (rN ρ) c (t + 1)) by rw [eD, show (10 : Int32) = nI 10 from rfl, pk_mul, nI_add]]
    refine Vs_istore2 (q := 39) dX2_tellCode_38 rfl (by decide) rfl ?_
    refine Vj_iload (q := 41) dX2_tellCode_39 rfl rfl ?_
    refine Vj_if_eq (q := 44) (tgt := 51) dX2_tellCode_41 (by decide) rfl (fun h41 => ?_) (fun h41 => ?_)
    ·
      have eL : cLi (rN ρ) c (t + 1) = cLi (rN ρ) c t := by rw [cLi, if_pos ((nI_z (by omega)).mp h41)]
      rw [← eL]
      refine Vj_iload (q := 53) dX2_tellCode_51 rfl rfl ?_
      refine Vj_aloadn (q := 54) dX2_tellCode_53 rfl rfl rfl ?_
      refine Vj_iload (q := 56) dX2_tellCode_54 rfl rfl ?_
      refine Vj_callVi (q := 59) (qX2_statesOf h (by omega)) (by decide) rfl rfl lkX2_47 viX2_statesOf okX2_statesOf dX2_tellCode_56 rfl rfl (Nat.le_of_ble_eq_true rfl) ?_
      refine Vj_icmp_lt (q := 62) (tgt := 65) dX2_tellCode_59 (by decide) rfl (fun h59 => ?_) (fun h59 => ?_)
      ·
        refine Vs_iinc5 (q := 68) (z := none) dX2_tellCode_65 rfl (by exact iinc_p _) (by decide) rfl ?_
        refine Vj_goto (q := 10) dX2_tellCode_68 (by decide) ?_
        rw [nI_1]
        have eO : cOkk ρ c (t + 1) = cOkk ρ c t := by rw [cOkk, decide_eq_true ((nI_ltI (by omega) (by omega)).mp h59), Bool.and_true]
        rw [← eO]
        exact ih (t + 1) _ (by omega)
      ·
        refine Vj_iconst (q := 63) (v := 0) dX2_tellCode_62 rfl (by decide) ?_
        refine Vs_istore4 (q := 65) dX2_tellCode_63 rfl (by decide) rfl ?_
        refine Vs_iinc5 (q := 68) (z := none) dX2_tellCode_65 rfl (by exact iinc_p _) (by decide) rfl ?_
        refine Vj_goto (q := 10) dX2_tellCode_68 (by decide) ?_
        rw [nI_1]
        have eO : cOkk ρ c (t + 1) = false := by rw [cOkk, decide_eq_false (fun z => h59 ((nI_ltI (by omega) (by omega)).mpr z)), Bool.and_false]
        have hi := ih (t + 1) (some (.int (nI (cS (rN ρ) c t)))) (by omega)
        rw [eO] at hi
        exact hi
    ·
      refine Vj_iloadn (q := 45) dX2_tellCode_44 rfl rfl rfl ?_
      refine Vj_iconst (q := 46) (v := 1) dX2_tellCode_45 rfl (by decide) ?_
      refine Vj_iload (q := 48) dX2_tellCode_46 rfl rfl ?_
      refine Vj_ishl (q := 49) dX2_tellCode_48 rfl ?_
      refine Vj_ior (q := 50) dX2_tellCode_49 rfl ?_
      refine Vs_istore3 (q := 51) dX2_tellCode_50 rfl (by decide) rfl ?_
      rw [i_or1 t (by omega) _ hl16] 
      have eL : cLi (rN ρ) c (t + 1) = cLi (rN ρ) c t ||| 1 <<< t := by rw [cLi, if_neg (fun z => h41 ((nI_z (by omega)).mpr z))]
      rw [← eL]
      refine Vj_iload (q := 53) dX2_tellCode_51 rfl rfl ?_
      refine Vj_aloadn (q := 54) dX2_tellCode_53 rfl rfl rfl ?_
      refine Vj_iload (q := 56) dX2_tellCode_54 rfl rfl ?_
      refine Vj_callVi (q := 59) (qX2_statesOf h (by omega)) (by decide) rfl rfl lkX2_47 viX2_statesOf okX2_statesOf dX2_tellCode_56 rfl rfl (Nat.le_of_ble_eq_true rfl) ?_
      refine Vj_icmp_lt (q := 62) (tgt := 65) dX2_tellCode_59 (by decide) rfl (fun h59 => ?_) (fun h59 => ?_)
      ·
        refine Vs_iinc5 (q := 68) (z := none) dX2_tellCode_65 rfl (by exact iinc_p _) (by decide) rfl ?_
        refine Vj_goto (q := 10) dX2_tellCode_68 (by decide) ?_
        rw [nI_1]
        have eO : cOkk ρ c (t + 1) = cOkk ρ c t := by rw [cOkk, decide_eq_true ((nI_ltI (by omega) (by omega)).mp h59), Bool.and_true]
        rw [← eO]
        exact ih (t + 1) _ (by omega)
      ·
        refine Vj_iconst (q := 63) (v := 0) dX2_tellCode_62 rfl (by decide) ?_
        refine Vs_istore4 (q := 65) dX2_tellCode_63 rfl (by decide) rfl ?_
        refine Vs_iinc5 (q := 68) (z := none) dX2_tellCode_65 rfl (by exact iinc_p _) (by decide) rfl ?_
        refine Vj_goto (q := 10) dX2_tellCode_68 (by decide) ?_
        rw [nI_1]
        have eO : cOkk ρ c (t + 1) = false := by rw [cOkk, decide_eq_false (fun z => h59 ((nI_ltI (by omega) (by omega)).mpr z)), Bool.and_false]
        have hi := ih (t + 1) (some (.int (nI (cS (rN ρ) c t)))) (by omega)
        rw [eO] at hi
        exact hi
set_option maxRecDepth 100000 in
theorem qX2_tellCode {ρ : Rm} {σ : Mem} (h : RP ρ σ) {c : Nat} (hc : c < 4 ^ rN ρ) : Ct shX 4 mX2_tellCode [.ref 10, .int (nI c)] σ (Rv (tell ρ c σ)) := by
  refine Ct.of (by decide) (Nat.le_of_ble_eq_true rfl) (l := [some (.ref 10), some (.int (nI c)), none, none, none, none, none]) rfl ?_
  refine Vj_iconst (q := 1) (v := 0) dX2_tellCode_0 rfl (by decide) ?_
  refine Vs_istore2 (q := 2) dX2_tellCode_1 rfl (by decide) rfl ?_
  refine Vj_iconst (q := 3) (v := 0) dX2_tellCode_2 rfl (by decide) ?_
  refine Vs_istore3 (q := 4) dX2_tellCode_3 rfl (by decide) rfl ?_
  refine Vj_iconst (q := 5) (v := 1) dX2_tellCode_4 rfl (by decide) ?_
  refine Vs_istore4 (q := 7) dX2_tellCode_5 rfl (by decide) rfl ?_
  refine Vj_iconst (q := 8) (v := 0) dX2_tellCode_7 rfl (by decide) ?_
  refine Vs_istore5 (q := 10) dX2_tellCode_8 rfl (by decide) rfl ?_
  exact qX2_tellCode_l1 h hc (rN ρ) 0 none (by omega)
end
section
/-- what Plan tells of the first K codes -/
def RTk (ρ : Rm) (K : Nat) (σ : Mem) : Prop := ∀ c, c < K → σ.1 17 c = (if cOk ρ c then nI (cDg (rN ρ) c (rN ρ)) else -1) ∧ σ.1 18 c = nI (cLi (rN ρ) c (rN ρ)) ∧ ∀ b, b < rB ρ → σ.1 19 (c * 6 + b) = nI (cNx ρ c b)
def RT (ρ : Rm) (σ : Mem) : Prop := σ.1 10 4 = nI (4 ^ rN ρ) ∧ RTk ρ (4 ^ rN ρ) σ
theorem RT.of {ρ : Rm} {σ σ' : Mem} (h : RT ρ σ) (h0 : σ'.1 10 = σ.1 10) (h1 : σ'.1 17 = σ.1 17) (h2 : σ'.1 18 = σ.1 18) (h3 : σ'.1 19 = σ.1 19) : RT ρ σ' := by
  refine ⟨by rw [h0]; exact h.1, fun c hc => ?_⟩
  rw [h1, h2, h3]
  exact h.2 c hc
theorem tell_ne {ρ : Rm} {c q : Nat} {σ : Mem} (h1 : q ≠ 17) (h2 : q ≠ 18) (h3 : q ≠ 19) : (tell ρ c σ).1 q = σ.1 q := by
  rw [tell, wNx_ne h3, uI_ne h2, uI_ne h1]
theorem tell_17 {ρ : Rm} {c : Nat} {σ : Mem} : (tell ρ c σ).1 17 = upd (σ.1 17) c (if cOk ρ c then nI (cDg (rN ρ) c (rN ρ)) else -1) := by
  rw [tell, wNx_ne (by decide), uI_ne (by decide), uI_eq]
theorem tell_18 {ρ : Rm} {c : Nat} {σ : Mem} : (tell ρ c σ).1 18 = upd (σ.1 18) c (nI (cLi (rN ρ) c (rN ρ))) := by
  rw [tell, wNx_ne (by decide), uI_eq, uI_ne (by decide)]
theorem tell_19 {ρ : Rm} {c j : Nat} {σ : Mem} : (tell ρ c σ).1 19 j = if c * 6 ≤ j ∧ j < c * 6 + rB ρ then nI (cNx ρ c (j - c * 6)) else σ.1 19 j := by
  rw [tell, wNx_at, uI_ne (by decide), uI_ne (by decide)]
theorem tell_2 {ρ : Rm} {c : Nat} {σ : Mem} : (tell ρ c σ).2 = σ.2 := by rw [tell, wNx_2]; rfl
theorem RTk.next {ρ : Rm} (hr : okR ρ) {K : Nat} {σ : Mem} (h : RTk ρ K σ) : RTk ρ (K + 1) (tell ρ K σ) := by
  have hB := hr.2.2.1
  intro c hc
  by_cases e : c = K
  · subst e
    refine ⟨by rw [tell_17, upd, if_pos rfl], by rw [tell_18, upd, if_pos rfl], fun b hb => ?_⟩
    rw [tell_19, if_pos (by omega)]
    congr 2; omega
  · obtain ⟨h1, h2, h3⟩ := h c (by omega)
    refine ⟨by rw [tell_17, upd, if_neg e]; exact h1, by rw [tell_18, upd, if_neg e]; exact h2, fun b hb => ?_⟩
    rw [tell_19, if_neg (by omega)]
    exact h3 b hb
theorem tell_Eqo {ρ : Rm} {c : Nat} {S : List Nat} {σ σ' : Mem} (h : Eqo S σ σ') (h1 : S.contains 17 = true) (h2 : S.contains 18 = true) (h3 : S.contains 19 = true) : Eqo S σ (tell ρ c σ') :=
  ⟨fun q hq => by
    have e1 : q ≠ 17 := fun e => hq (by subst e; simpa using h1)
    have e2 : q ≠ 18 := fun e => hq (by subst e; simpa using h2)
    have e3 : q ≠ 19 := fun e => hq (by subst e; simpa using h3)
    rw [tell_ne e1 e2 e3]; exact h.1 q hq, by rw [tell_2]; exact h.2⟩
theorem RP.tell {ρ : Rm} {c : Nat} {σ : Mem} (h : RP ρ σ) : RP ρ (tell ρ c σ) := h.of (tell_ne (by decide) (by decide) (by decide)) (tell_ne (by decide) (by decide) (by decide)) (tell_ne (by decide) (by decide) (by decide)) (tell_ne (by decide) (by decide) (by decide)) (tell_ne (by decide) (by decide) (by decide))
def mkS : List Nat := [10, 11, 12, 13, 14, 15, 16, 17, 18, 19]
/-- behind Plan.make -/
def MkP (ρ : Rm) (F : List Nat) (σ0 : Mem) : Option Value → Mem → Prop := fun r σ' => r = none ∧ RP ρ σ' ∧ RT ρ σ' ∧ (∀ t, t < rN ρ → σ'.1 13 t = nI (F.getD t 0)) ∧ Eqo mkS σ0 σ'
theorem RP_of_PD {ρ : Rm} {F : List Nat} {σ : Mem} (hr : okR ρ) (h : PD 11 ρ.1 F ρ.2 σ) : RP ρ σ := ⟨hr, h.1, h.2.1, fun t ht => (h.2.2.1 t ht).1, fun b hb => h.2.2.2 b hb⟩

set_option maxRecDepth 100000 in
theorem qX2_make_loop {ρ : Rm} {F : List Nat} {σ0 : Mem} {p : Nat} : ∀ (k c : Nat) (σ : Mem), c + k = 4 ^ rN ρ → RP ρ σ → σ.1 10 4 = nI (4 ^ rN ρ) → RTk ρ c σ → (∀ t, t < rN ρ → σ.1 13 t = nI (F.getD t 0)) → Eqo mkS σ0 σ → Vj shX 5 mX2_make (MkP ρ F σ0) 25 [some (.ref 10), some (.ref p), some (.int (nI c))] [] σ := by
  intro k
  induction k with
  | zero =>
    intro c σ hc h h10 hT hF hE
    have hp4 := p4_le h.1.1
    obtain rfl : c = 4 ^ rN ρ := by omega
    refine Vj_iloadn (q := 26) dX2_make_25 rfl rfl rfl ?_
    refine Vj_aloadn (q := 27) dX2_make_26 rfl rfl rfl ?_
    refine Vj_getI (q := 30) flX2_36 rfl rfl dX2_make_27 rfl ?_
    rw [h10]
    refine Vj_icmp_ge (q := 33) (tgt := 44) dX2_make_30 (by decide) rfl (fun _ => ?_) (fun hz => absurd (nI_le (Nat.le_refl _) (by omega)) hz)
    exact Vr_vret rfl dX2_make_44 (⟨rfl, h, ⟨h10, hT⟩, hF, hE⟩)
  | succ k ih =>
    intro c σ hc h h10 hT hF hE
    have hp4 := p4_le h.1.1
    refine Vj_iloadn (q := 26) dX2_make_25 rfl rfl rfl ?_
    refine Vj_aloadn (q := 27) dX2_make_26 rfl rfl rfl ?_
    refine Vj_getI (q := 30) flX2_36 rfl rfl dX2_make_27 rfl ?_
    rw [h10]
    refine Vj_icmp_ge (q := 33) (tgt := 44) dX2_make_30 (by decide) rfl (fun hz => absurd hz (nI_ge (by omega) (by omega))) (fun _ => ?_)
    refine Vj_aloadn (q := 34) dX2_make_33 rfl rfl rfl ?_
    refine Vj_iloadn (q := 35) dX2_make_34 rfl rfl rfl ?_
    refine Vj_callVv (q := 38) (qX2_tellCode h (c := c) (by omega)) (by decide) rfl rfl lkX2_39 viX2_tellCode okX2_tellCode dX2_make_35 rfl rfl (Nat.le_of_ble_eq_true rfl) ?_
    refine Vs_iinc2 (q := 41) (z := none) dX2_make_38 rfl (by exact iinc_p _) (by decide) rfl ?_
    refine Vj_goto (q := 25) dX2_make_41 (by decide) ?_
    rw [nI_1]
    exact ih (c + 1) _ (by omega) h.tell (by rw [tell_ne (by decide) (by decide) (by decide)]; exact h10) (hT.next h.1) (fun t ht => by rw [tell_ne (by decide) (by decide) (by decide)]; exact hF t ht) (tell_Eqo hE rfl rfl rfl)
set_option maxRecDepth 100000 in
theorem qX2_make {ρ : Rm} {F : List Nat} {σ : Mem} {p : Nat} (hr : okR ρ) (hp : PSh p) (hpp : p + 5 < 11 ∨ 16 < p) (hF : F.length = rN ρ) (hT : PD p ρ.1 F ρ.2 σ) : Ct shX 5 mX2_make [.ref 10, .ref p] σ (MkP ρ F σ) := by
  refine Ct.of (by decide) (Nat.le_of_ble_eq_true rfl) (l := [some (.ref 10), some (.ref p), none]) rfl ?_
  refine Vj_aloadn (q := 1) dX2_make_0 rfl rfl rfl ?_
  refine Vj_getR (q := 4) flX2_12 rfl rfl dX2_make_1 rfl ?_
  refine Vj_aloadn (q := 5) dX2_make_4 rfl rfl rfl ?_
  refine Vj_callV (q := 8) (qX0_copy hp hpp hr.1 hF hr.2.2.1 hT) (by decide) rfl rfl lkX2_28 viX0_copy okX0_copy dX2_make_5 rfl rfl (Nat.le_of_ble_eq_true rfl) ?_
  rintro r σ1 ⟨rfl, hD, hE⟩
  show Vj shX 5 mX2_make _ 8 _ [] σ1
  have h := RP_of_PD hr hD
  refine Vj_aloadn (q := 9) dX2_make_8 rfl rfl rfl ?_
  refine Vj_iconst (q := 10) (v := 1) dX2_make_9 rfl (by decide) ?_
  refine Vj_iconst (q := 11) (v := 2) dX2_make_10 rfl (by decide) ?_
  refine Vj_aloadn (q := 12) dX2_make_11 rfl rfl rfl ?_
  refine Vj_getR (q := 15) flX2_12 rfl rfl dX2_make_12 rfl ?_
  refine Vj_getI (q := 18) flX2_32 rfl rfl dX2_make_15 rfl ?_
  rw [h.2.1]
  refine Vj_imul (q := 19) dX2_make_18 rfl ?_
  refine Vj_ishl (q := 20) dX2_make_19 rfl ?_
  rw [i_p4 _ hr.1]
  refine Vj_putI (q := 23) flX2_36 rfl rfl dX2_make_20 rfl ?_
  refine Vj_iconst (q := 24) (v := 0) dX2_make_23 rfl (by decide) ?_
  refine Vs_istore2 (q := 25) dX2_make_24 rfl (by decide) rfl ?_
  exact qX2_make_loop (4 ^ rN ρ) 0 _ (by omega) (h.uI rfl) (by simp [uI, upd]) (fun c hc => absurd hc (Nat.not_lt_zero c)) (fun t ht => by rw [uI_ne (by decide)]; exact (hD.2.2.1 t ht).2) ((hE.in (S' := mkS) rfl).u rfl)
/-! Arrays.fill -/
def fillM (σ : Mem) (q n : Nat) (x : Int32) : Mem := (fun q' => if q' = q then (fun j => if j < n then x else σ.1 q j) else σ.1 q', σ.2)
theorem fillM_eq {σ : Mem} {q n : Nat} {x : Int32} : (fillM σ q n x).1 q = fun j => if j < n then x else σ.1 q j := by simp [fillM]
theorem fillM_ne {σ : Mem} {q n r : Nat} {x : Int32} (h : r ≠ q) : (fillM σ q n x).1 r = σ.1 r := by simp [fillM, h]
theorem fillM_0 {σ : Mem} {q : Nat} {x : Int32} : fillM σ q 0 x = σ := by
  refine Prod.ext (funext fun r => ?_) rfl
  by_cases e : r = q
  · subst e; rw [fillM_eq]; funext j; simp
  · rw [fillM_ne e]
theorem fillM_s {σ : Mem} {q n : Nat} {x : Int32} : uI (fillM σ q n x) q n x = fillM σ q (n + 1) x := by
  refine Prod.ext (funext fun r => ?_) rfl
  by_cases e : r = q
  · subst e
    rw [uI_eq, fillM_eq, fillM_eq]
    funext j
    rw [upd]
    by_cases e1 : j = n
    · rw [if_pos e1, if_pos (by omega)]
    · rw [if_neg e1]
      by_cases e2 : j < n
      · rw [if_pos e2, if_pos (by omega)]
      · rw [if_neg e2, if_neg (by omega)]
  · rw [uI_ne e, fillM_ne e, fillM_ne e]
theorem Eqo.fill {S : List Nat} {σ σ' : Mem} {q n : Nat} {x : Int32} (h : Eqo S σ σ') (hq : S.contains q = true) : Eqo S σ (fillM σ' q n x) :=
  ⟨fun p hp => by
    have : p ≠ q := fun e => hp (by subst e; simpa using hq)
    rw [fillM_ne this]; exact h.1 p hp, h.2⟩

set_option maxRecDepth 100000 in
theorem qJ7_fill_53178_loop {sh : Shp} {σ : Mem} {q n : Nat} (hq : sh[q]? = some (.inl (0, n))) (hn : n < 2 ^ 31) (x : Int32) : ∀ k i : Nat, i + k = n → Vj sh 0 mJ7_fill_53178 (Rv (fillM σ q n x)) 5 [some (.ref q), some (.int x), some (.int (nI i)), some (.int (nI n))] [] (fillM σ q i x) := by
  intro k
  induction k with
  | zero =>
    intro i hi
    obtain rfl : i = n := by omega
    refine Vj_iloadn (q := 6) dJ7_fill_53178_5 rfl rfl rfl ?_
    refine Vj_iloadn (q := 7) dJ7_fill_53178_6 rfl rfl rfl ?_
    refine Vj_icmp_ge (q := 10) (tgt := 20) dJ7_fill_53178_7 (by decide) rfl (fun _ => ?_) (fun hz => absurd (nI_le (Nat.le_refl _) (by omega)) hz)
    exact Vr_vret rfl dJ7_fill_53178_20 (⟨rfl, rfl⟩)
  | succ k ih =>
    intro i hi
    refine Vj_iloadn (q := 6) dJ7_fill_53178_5 rfl rfl rfl ?_
    refine Vj_iloadn (q := 7) dJ7_fill_53178_6 rfl rfl rfl ?_
    refine Vj_icmp_ge (q := 10) (tgt := 20) dJ7_fill_53178_7 (by decide) rfl (fun hz => absurd hz (nI_ge (by omega) (by omega))) (fun _ => ?_)
    refine Vj_aloadn (q := 11) dJ7_fill_53178_10 rfl rfl rfl ?_
    refine Vj_iloadn (q := 12) dJ7_fill_53178_11 rfl rfl rfl ?_
    refine Vj_iloadn (q := 13) dJ7_fill_53178_12 rfl rfl rfl ?_
    refine Vj_iast (q := 14) hq (vp_in_nI (by omega) hn) dJ7_fill_53178_13 rfl ?_
    refine Vs_iinc2 (q := 17) (z := none) dJ7_fill_53178_14 rfl (by exact iinc_p _) (by decide) rfl ?_
    refine Vj_goto (q := 5) dJ7_fill_53178_17 (by decide) ?_
    rw [nI_1, nI_clamp (by omega), fillM_s]
    exact ih (i + 1) (by omega)
set_option maxRecDepth 100000 in
theorem qJ7_fill_53178 {sh : Shp} {σ : Mem} {q n : Nat} (hq : sh[q]? = some (.inl (0, n))) (hn : n < 2 ^ 31) (x : Int32) : Ct sh 0 mJ7_fill_53178 [.ref q, .int x] σ (Rv (fillM σ q n x)) := by
  refine Ct.of (by decide) (Nat.le_of_ble_eq_true rfl) (l := [some (.ref q), some (.int x), none, none]) rfl ?_
  refine Vj_iconst (q := 1) (v := 0) dJ7_fill_53178_0 rfl (by decide) ?_
  refine Vs_istore2 (q := 2) dJ7_fill_53178_1 rfl (by decide) rfl ?_
  refine Vj_aloadn (q := 3) dJ7_fill_53178_2 rfl rfl rfl ?_
  refine Vj_alen (q := 4) hq rfl dJ7_fill_53178_3 rfl ?_
  refine Vs_istore3 (q := 5) dJ7_fill_53178_4 rfl (by decide) rfl ?_
  have hz := qJ7_fill_53178_loop (σ := σ) hq hn x n 0 (by omega)
  rw [fillM_0] at hz
  exact hz
end
section
/-! edges into a code: how many, and where they stand -/
def sumN (f : Nat → Nat) : Nat → Nat
  | 0 => 0
  | m + 1 => sumN f m + f m
theorem sumN_add (f g : Nat → Nat) : ∀ m, sumN (fun y => f y + g y) m = sumN f m + sumN g m
  | 0 => rfl
  | m + 1 => by simp only [sumN, sumN_add f g m]; omega
theorem sumN_mono {f : Nat → Nat} {a b : Nat} (h : a ≤ b) : sumN f a ≤ sumN f b := by
  induction b with
  | zero => rw [Nat.le_zero.mp h]; exact Nat.le_refl _
  | succ b ih =>
    by_cases e : a = b + 1
    · rw [e]; exact Nat.le_refl _
    · have := ih (by omega); rw [sumN]; omega
theorem sumN_one (v : Nat) (p : Nat → Prop) [DecidablePred p] : ∀ m, sumN (fun y => if v = y ∧ p y then 1 else 0) m ≤ (if v < m then 1 else 0)
  | 0 => by simp [sumN]
  | m + 1 => by
    have h := sumN_one v p m
    rw [sumN]
    by_cases e : v = m
    · subst e
      rw [if_neg (Nat.lt_irrefl v)] at h
      have e3 : (if v < v + 1 then 1 else 0) = 1 := if_pos (Nat.lt_succ_self v)
      rw [e3]
      split <;> omega
    · rw [if_neg (fun z => e z.1)]
      by_cases e2 : v < m
      · rw [if_pos e2] at h; rw [if_pos (by omega)]; omega
      · rw [if_neg e2] at h; omega
theorem sumN_zero : ∀ m, sumN (fun _ => 0) m = 0
  | 0 => rfl
  | m + 1 => by rw [sumN, sumN_zero m]
def eIn (ρ : Rm) (c x : Nat) : Nat → Nat
  | 0 => 0
  | k + 1 => eIn ρ c x k + (if cNx ρ c k = x ∧ x ≠ c then 1 else 0)
def eAll (ρ : Rm) (x : Nat) : Nat → Nat
  | 0 => 0
  | K + 1 => eAll ρ x K + eIn ρ K x (rB ρ)
def eP (ρ : Rm) (c b x : Nat) : Nat := eAll ρ x c + eIn ρ c x b
def eS (ρ : Rm) (x : Nat) : Nat := sumN (fun y => eAll ρ y (4 ^ rN ρ)) x
theorem eIn_mono {ρ : Rm} {c x a b : Nat} (h : a ≤ b) : eIn ρ c x a ≤ eIn ρ c x b := by
  induction b with
  | zero => rw [Nat.le_zero.mp h]; exact Nat.le_refl _
  | succ b ih =>
    by_cases e : a = b + 1
    · rw [e]; exact Nat.le_refl _
    · have := ih (by omega); rw [eIn]; omega
theorem eAll_mono {ρ : Rm} {x a b : Nat} (h : a ≤ b) : eAll ρ x a ≤ eAll ρ x b := by
  induction b with
  | zero => rw [Nat.le_zero.mp h]; exact Nat.le_refl _
  | succ b ih =>
    by_cases e : a = b + 1
    · rw [e]; exact Nat.le_refl _
    · have := ih (by omega); rw [eAll]; omega
theorem eP_le {ρ : Rm} {c b x : Nat} (hc : c < 4 ^ rN ρ) (hb : b ≤ rB ρ) : eP ρ c b x ≤ eAll ρ x (4 ^ rN ρ) := by
  have h1 := eIn_mono (ρ := ρ) (c := c) (x := x) hb
  have h2 := eAll_mono (ρ := ρ) (x := x) (show c + 1 ≤ 4 ^ rN ρ from hc)
  rw [eAll] at h2
  unfold eP
  omega
theorem eP_s {ρ : Rm} {c b x : Nat} : eP ρ c (b + 1) x = eP ρ c b x + (if cNx ρ c b = x ∧ x ≠ c then 1 else 0) := by
  unfold eP; rw [eIn]; omega
theorem eP_c {ρ : Rm} {c x : Nat} : eP ρ (c + 1) 0 x = eP ρ c (rB ρ) x := by
  unfold eP; rw [eAll, eIn]; omega
theorem eP_0 {ρ : Rm} {x : Nat} : eP ρ 0 0 x = 0 := rfl
theorem eP_N {ρ : Rm} {x : Nat} : eP ρ (4 ^ rN ρ) 0 x = eAll ρ x (4 ^ rN ρ) := rfl
theorem eIn_sum {ρ : Rm} {c : Nat} (m : Nat) : ∀ k, sumN (fun y => eIn ρ c y k) m ≤ k
  | 0 => by simp only [eIn, sumN_zero]; exact Nat.le_refl _
  | k + 1 => by
    have h := eIn_sum (ρ := ρ) (c := c) m k
    have h1 := sumN_one (cNx ρ c k) (fun y => y ≠ c) m
    simp only [eIn, sumN_add]
    split at h1 <;> omega
theorem eAll_sum {ρ : Rm} (m : Nat) : ∀ K, sumN (fun y => eAll ρ y K) m ≤ K * rB ρ
  | 0 => by simp only [eAll, sumN_zero]; omega
  | K + 1 => by
    have h := eAll_sum (ρ := ρ) m K
    have h1 := eIn_sum (ρ := ρ) (c := K) m (rB ρ)
    simp only [eAll, sumN_add]
    rw [Nat.succ_mul]
    omega
theorem eS_le {ρ : Rm} (h : okR ρ) (x : Nat) : eS ρ x ≤ 1536 := by
  have h1 := eAll_sum (ρ := ρ) x (4 ^ rN ρ)
  have h2 := p4_le h.1
  have h3 := h.2.2.1
  have h4 : 4 ^ rN ρ * rB ρ ≤ 256 * 6 := Nat.mul_le_mul h2 (by omega)
  unfold eS
  omega
theorem eS_s {ρ : Rm} {x : Nat} : eS ρ (x + 1) = eS ρ x + eAll ρ x (4 ^ rN ρ) := rfl
theorem eS_mono {ρ : Rm} {a b : Nat} (h : a ≤ b) : eS ρ a ≤ eS ρ b := sumN_mono h
/-- while the edges are filled in from the ends -/
def FI (ρ : Rm) (c b : Nat) (σ : Mem) : Prop :=
  (∀ x, x < 257 → σ.1 21 x = nI (eS ρ (x + 1) - eP ρ c b x)) ∧
  (∀ x, x < 257 → ∀ i, eS ρ (x + 1) - eP ρ c b x ≤ i → i < eS ρ (x + 1) → ∃ c' b', c' < 4 ^ rN ρ ∧ b' < rB ρ ∧ cNx ρ c' b' = x ∧ x ≠ c' ∧ σ.1 22 i = nI (c' * 6 + b')) ∧
  ∀ c' b', c' < 4 ^ rN ρ → b' < rB ρ → (c' < c ∨ (c' = c ∧ b' < b)) → cNx ρ c' b' ≠ c' → ∃ i, eS ρ (cNx ρ c' b' + 1) - eP ρ c b (cNx ρ c' b') ≤ i ∧ i < eS ρ (cNx ρ c' b' + 1) ∧ σ.1 22 i = nI (c' * 6 + b')
theorem FI.skip {ρ : Rm} {c b : Nat} {σ : Mem} (h : FI ρ c b σ) (he : cNx ρ c b = c) : FI ρ c (b + 1) σ := by
  have e : ∀ x, eP ρ c (b + 1) x = eP ρ c b x := fun x => by
    rw [eP_s, if_neg (by rintro ⟨h1, h2⟩; exact h2 (h1.symm.trans he))]; rfl
  refine ⟨fun x hx => by rw [e]; exact h.1 x hx, fun x hx i => by rw [e]; exact h.2.1 x hx i, fun c' b' hc hb hp hn => ?_⟩
  rw [e]
  refine h.2.2 c' b' hc hb ?_ hn
  rcases hp with hp | ⟨rfl, hp⟩
  · exact Or.inl hp
  · by_cases z : b' = b
    · subst z; exact absurd he hn
    · exact Or.inr ⟨rfl, by omega⟩
theorem FI.turn {ρ : Rm} {c : Nat} {σ : Mem} (h : FI ρ c (rB ρ) σ) : FI ρ (c + 1) 0 σ := by
  refine ⟨fun x hx => by rw [eP_c]; exact h.1 x hx, fun x hx i => by rw [eP_c]; exact h.2.1 x hx i, fun c' b' hc hb hp hn => ?_⟩
  rw [eP_c]
  exact h.2.2 c' b' hc hb (by omega) hn
theorem FI.put {ρ : Rm} (hr : okR ρ) {c b y P : Nat} {σ : Mem} (hc : c < 4 ^ rN ρ) (hb : b < rB ρ) (h : FI ρ c b σ) (hy : cNx ρ c b = y) (hn : y ≠ c) (hP : P = eS ρ (y + 1) - eP ρ c b y - 1) :
    FI ρ c (b + 1) (uI (uI σ 21 y (nI P)) 22 P (nI (c * 6 + b))) ∧ eP ρ c b y + 1 ≤ eS ρ (y + 1) ∧ P < 1536 := by
  have hle := eP_le (x := y) hc (show b + 1 ≤ rB ρ from hb)
  rw [eP_s, if_pos ⟨hy, hn⟩] at hle
  have hS := eS_s (ρ := ρ) (x := y)
  have hL := eS_le hr (y + 1)
  have ey : eP ρ c (b + 1) y = eP ρ c b y + 1 := by rw [eP_s, if_pos ⟨hy, hn⟩]
  have ex : ∀ x, x ≠ y → eP ρ c (b + 1) x = eP ρ c b x := fun x hx => by
    rw [eP_s, if_neg (by rintro ⟨h1, h2⟩; exact hx (h1.symm.trans hy))]; rfl
  have hd : ∀ x i, x ≠ y → eS ρ (x + 1) - eP ρ c b x ≤ i → i < eS ρ (x + 1) → i ≠ P := by
    intro x i hx h1 h2 e
    have hx1 := eP_le (x := x) hc (show b ≤ rB ρ by omega)
    have hx2 := eS_s (ρ := ρ) (x := x)
    rcases Nat.lt_or_gt_of_ne hx with z | z
    · have := eS_mono (ρ := ρ) (show x + 1 ≤ y from z)
      omega
    · have := eS_mono (ρ := ρ) (show y + 1 ≤ x from z)
      omega
  have e1 : (uI (uI σ 21 y (nI P)) 22 P (nI (c * 6 + b))).1 21 = upd (σ.1 21) y (nI P) := by rw [uI_ne (by decide), uI_eq]
  have e2 : (uI (uI σ 21 y (nI P)) 22 P (nI (c * 6 + b))).1 22 = upd (σ.1 22) P (nI (c * 6 + b)) := by rw [uI_eq, uI_ne (by decide)]
  refine ⟨⟨fun x hx => ?_, fun x hx i h1 h2 => ?_, fun c' b' hc' hb' hp hn' => ?_⟩, by omega, by omega⟩
  · rw [e1, upd]
    by_cases e : x = y
    · subst e
      rw [if_pos rfl, ey, hP, Nat.sub_sub]
    · rw [if_neg e, ex x e]
      exact h.1 x hx
  · rw [e2, upd]
    by_cases e : x = y
    · subst e
      rw [ey] at h1
      by_cases ei : i = P
      · exact ⟨c, b, hc, hb, hy, hn, by rw [if_pos ei]⟩
      · rw [if_neg ei]
        exact h.2.1 x hx i (by omega) h2
    · rw [ex x e] at h1
      rw [if_neg (hd x i e h1 h2)]
      exact h.2.1 x hx i h1 h2
  · rw [e2]
    by_cases en : c' = c ∧ b' = b
    · obtain ⟨rfl, rfl⟩ := en
      rw [hy, ey]
      exact ⟨P, by omega, by omega, by rw [upd, if_pos rfl]⟩
    · obtain ⟨i, h1, h2, h3⟩ := h.2.2 c' b' hc' hb' (by omega) hn'
      by_cases e : cNx ρ c' b' = y
      · rw [e] at h1 h2
        rw [e, ey]
        exact ⟨i, by omega, h2, by rw [upd, if_neg (by omega)]; exact h3⟩
      · rw [ex _ e]
        exact ⟨i, h1, h2, by rw [upd, if_neg (hd _ i e h1 h2)]; exact h3⟩
/-- what Paths tells -/
def RE (ρ : Rm) (σ : Mem) : Prop := ∀ x, x < 4 ^ rN ρ → σ.1 21 x = nI (eS ρ x) ∧ σ.1 21 (x + 1) = nI (eS ρ (x + 1)) ∧
  (∀ i, eS ρ x ≤ i → i < eS ρ (x + 1) → ∃ c' b', c' < 4 ^ rN ρ ∧ b' < rB ρ ∧ cNx ρ c' b' = x ∧ x ≠ c' ∧ σ.1 22 i = nI (c' * 6 + b')) ∧
  ∀ c' b', c' < 4 ^ rN ρ → b' < rB ρ → cNx ρ c' b' = x → x ≠ c' → ∃ i, eS ρ x ≤ i ∧ i < eS ρ (x + 1) ∧ σ.1 22 i = nI (c' * 6 + b')
theorem RE.of {ρ : Rm} {σ σ' : Mem} (h : RE ρ σ) (h1 : σ'.1 21 = σ.1 21) (h2 : σ'.1 22 = σ.1 22) : RE ρ σ' := by
  intro x hx
  rw [h1, h2]
  exact h x hx
theorem FI.done {ρ : Rm} (hr : okR ρ) {σ : Mem} (h : FI ρ (4 ^ rN ρ) 0 σ) : RE ρ σ := by
  have hp4 := p4_le hr.1
  have key : ∀ x, eS ρ (x + 1) - eP ρ (4 ^ rN ρ) 0 x = eS ρ x := fun x => by rw [eP_N, eS_s]; omega
  intro x hx
  refine ⟨by rw [h.1 x (by omega), key], ?_, fun i h1 h2 => h.2.1 x (by omega) i (by rw [key]; exact h1) h2, fun c' b' hc hb he hn => ?_⟩
  · rw [h.1 (x + 1) (by omega), key]
  · obtain ⟨i, h1, h2, h3⟩ := h.2.2 c' b' hc hb (Or.inl hc) (by rw [he]; exact hn)
    rw [he] at h1 h2
    rw [key] at h1
    exact ⟨i, h1, h2, h3⟩
theorem RT.uI {ρ : Rm} {q j : Nat} {x : Int32} {σ : Mem} (h : RT ρ σ) (hq : (q == 10 || q == 17 || q == 18 || q == 19) = false) : RT ρ (uI σ q j x) := by
  simp only [Bool.or_eq_false_iff, beq_eq_false_iff_ne] at hq
  exact h.of (uI_ne (by omega)) (uI_ne (by omega)) (uI_ne (by omega)) (uI_ne (by omega))
theorem RP.fill {ρ : Rm} {q n : Nat} {x : Int32} {σ : Mem} (h : RP ρ σ) (hq : (q == 11 || q == 12 || q == 14 || q == 15 || q == 16) = false) : RP ρ (fillM σ q n x) := by
  simp only [Bool.or_eq_false_iff, beq_eq_false_iff_ne] at hq
  exact h.of (fillM_ne (by omega)) (fillM_ne (by omega)) (fillM_ne (by omega)) (fillM_ne (by omega)) (fillM_ne (by omega))
theorem RT.fill {ρ : Rm} {q n : Nat} {x : Int32} {σ : Mem} (h : RT ρ σ) (hq : (q == 10 || q == 17 || q == 18 || q == 19) = false) : RT ρ (fillM σ q n x) := by
  simp only [Bool.or_eq_false_iff, beq_eq_false_iff_ne] at hq
  exact h.of (fillM_ne (by omega)) (fillM_ne (by omega)) (fillM_ne (by omega)) (fillM_ne (by omega))
theorem nI_ne_of {a b : Nat} (ha : a < 2 ^ 31) (hb : b < 2 ^ 31) (h : ¬ nI a = nI b) : a ≠ b := fun e => h ((nI_eq ha hb).mpr e)
/-- behind Paths.make -/
def PmP (ρ : Rm) (σ0 : Mem) : Option Value → Mem → Prop := fun r σ' => r = none ∧ RE ρ σ' ∧ Eqo [21, 22] σ0 σ'

set_option maxRecDepth 100000 in
theorem qX1_fillFromTheEnds_l2 {ρ : Rm} {σ0 : Mem} {c : Nat} (hc : c < 4 ^ rN ρ) {Post : Option Value → Mem → Prop} (kk : ∀ (σ : Mem) (z3 z4 z5 : Option Value), RP ρ σ → RT ρ σ → FI ρ c (rB ρ) σ → Eqo [21, 22] σ0 σ → Vj shX 2 mX1_fillFromTheEnds Post 79 [some (.ref 20), some (.ref 10), some (.int (nI c)), z3, z4, z5] [] σ) :
    ∀ (k b : Nat) (σ : Mem) (z4 z5 : Option Value), b + k = rB ρ → RP ρ σ → RT ρ σ → FI ρ c b σ → Eqo [21, 22] σ0 σ → Vj shX 2 mX1_fillFromTheEnds Post 12 [some (.ref 20), some (.ref 10), some (.int (nI c)), some (.int (nI b)), z4, z5] [] σ := by
  intro k
  induction k with
  | zero =>
    intro b σ z4 z5 hb h hT hF hE
    have hB := h.1.2.2.1
    obtain rfl : b = rB ρ := by omega
    refine Vj_iloadn (q := 13) dX1_fillFromTheEnds_12 rfl rfl rfl ?_
    refine Vj_aloadn (q := 14) dX1_fillFromTheEnds_13 rfl rfl rfl ?_
    refine Vj_callVi (q := 17) (qX2_buttons h) (by decide) rfl rfl lkX1_36 viX2_buttons okX2_buttons dX1_fillFromTheEnds_14 rfl rfl (Nat.le_of_ble_eq_true rfl) ?_
    refine Vj_icmp_ge (q := 20) (tgt := 79) dX1_fillFromTheEnds_17 (by decide) rfl (fun _ => ?_) (fun hz => absurd (nI_le (Nat.le_refl _) (by omega)) hz)
    exact kk σ _ _ _ h hT hF hE
  | succ k ih =>
    intro b σ z4 z5 hb h hT hF hE
    have hB := h.1.2.2.1
    have hp4 := p4_le h.1.1
    have hx := cNx_lt h.1 hc (show b < rB ρ by omega)
    refine Vj_iloadn (q := 13) dX1_fillFromTheEnds_12 rfl rfl rfl ?_
    refine Vj_aloadn (q := 14) dX1_fillFromTheEnds_13 rfl rfl rfl ?_
    refine Vj_callVi (q := 17) (qX2_buttons h) (by decide) rfl rfl lkX1_36 viX2_buttons okX2_buttons dX1_fillFromTheEnds_14 rfl rfl (Nat.le_of_ble_eq_true rfl) ?_
    refine Vj_icmp_ge (q := 20) (tgt := 79) dX1_fillFromTheEnds_17 (by decide) rfl (fun hz => absurd hz (nI_ge (by omega) (by omega))) (fun _ => ?_)
    refine Vj_aloadn (q := 21) dX1_fillFromTheEnds_20 rfl rfl rfl ?_
    refine Vj_iloadn (q := 22) dX1_fillFromTheEnds_21 rfl rfl rfl ?_
    refine Vj_iloadn (q := 23) dX1_fillFromTheEnds_22 rfl rfl rfl ?_
    refine Vj_callVi (q := 26) (qX2_behind (c := c) (b := b) (by omega) (by omega)) (by decide) rfl rfl lkX1_40 viX2_behind okX2_behind dX1_fillFromTheEnds_23 rfl rfl (Nat.le_of_ble_eq_true rfl) ?_
    rw [(hT.2 c hc).2.2 b (by omega)]
    refine Vs_istore4 (q := 28) dX1_fillFromTheEnds_26 rfl (by decide) rfl ?_
    refine Vj_iload (q := 30) dX1_fillFromTheEnds_28 rfl rfl ?_
    refine Vj_iloadn (q := 31) dX1_fillFromTheEnds_30 rfl rfl rfl ?_
    refine Vj_icmp_eq (q := 34) (tgt := 73) dX1_fillFromTheEnds_31 (by decide) rfl (fun h31 => ?_) (fun h31 => ?_)
    ·
      refine Vs_iinc3 (q := 76) (z := none) dX1_fillFromTheEnds_73 rfl (by exact iinc_p _) (by decide) rfl ?_
      refine Vj_goto (q := 12) dX1_fillFromTheEnds_76 (by decide) ?_
      rw [nI_1]
      exact ih (b + 1) σ _ _ (by omega) h hT (hF.skip ((nI_eq (by omega) (by omega)).mp h31)) hE
    ·
      refine Vj_aloadn (q := 35) dX1_fillFromTheEnds_34 rfl rfl rfl ?_
      refine Vj_getR (q := 38) flX1_9 rfl rfl dX1_fillFromTheEnds_35 rfl ?_
      refine Vj_iload (q := 40) dX1_fillFromTheEnds_38 rfl rfl ?_
      refine Vj_callSi (q := 43) (qX9_atn rfl (by decide) (j := cNx ρ c b) (by omega)) (by decide) lkX1_44 stX9_at okX9_at dX1_fillFromTheEnds_40 rfl rfl (Nat.le_of_ble_eq_true rfl) ?_
      have hne := nI_ne_of (by omega) (by omega) h31
      obtain ⟨g1, g2, g3⟩ := FI.put h.1 hc (show b < rB ρ by omega) hF rfl hne rfl
      have hL := eS_le h.1 (cNx ρ c b + 1)
      rw [hF.1 _ (by omega)]
      refine Vj_iconst (q := 44) (v := 1) dX1_fillFromTheEnds_43 rfl (by decide) ?_
      refine Vj_isub (q := 45) dX1_fillFromTheEnds_44 rfl ?_
      rw [show (1 : Int32) = nI 1 from rfl, pk_sub (show 1 ≤ eS ρ (cNx ρ c b + 1) - eP ρ c b (cNx ρ c b) by omega)]
      refine Vs_istore5 (q := 47) dX1_fillFromTheEnds_45 rfl (by decide) rfl ?_
      refine Vj_aloadn (q := 48) dX1_fillFromTheEnds_47 rfl rfl rfl ?_
      refine Vj_getR (q := 51) flX1_9 rfl rfl dX1_fillFromTheEnds_48 rfl ?_
      refine Vj_iload (q := 53) dX1_fillFromTheEnds_51 rfl rfl ?_
      refine Vj_iload (q := 55) dX1_fillFromTheEnds_53 rfl rfl ?_
      refine Vj_callSv (q := 58) (qX9_putn rfl (by decide) (j := cNx ρ c b) (by omega) _) (by decide) lkX1_48 stX9_put okX9_put dX1_fillFromTheEnds_55 rfl rfl (Nat.le_of_ble_eq_true rfl) ?_
      refine Vj_aloadn (q := 59) dX1_fillFromTheEnds_58 rfl rfl rfl ?_
      refine Vj_getR (q := 62) flX1_15 rfl rfl dX1_fillFromTheEnds_59 rfl ?_
      refine Vj_iload (q := 64) dX1_fillFromTheEnds_62 rfl rfl ?_
      refine Vj_iloadn (q := 65) dX1_fillFromTheEnds_64 rfl rfl rfl ?_
      refine Vj_bipush (q := 67) (v := 6) dX1_fillFromTheEnds_65 rfl (by decide) ?_
      refine Vj_imul (q := 68) dX1_fillFromTheEnds_67 rfl ?_
      refine Vj_iloadn (q := 69) dX1_fillFromTheEnds_68 rfl rfl rfl ?_
      refine Vj_iadd (q := 70) dX1_fillFromTheEnds_69 rfl ?_
      rw [show nI c * 6 + nI b = nI (c * 6 + b) by rw [show (6 : Int32) = nI 6 from rfl, pk_mul, nI_add]]
      refine Vj_callSv (q := 73) (qX9_putn rfl (by decide) (j := eS ρ (cNx ρ c b + 1) - eP ρ c b (cNx ρ c b) - 1) (by omega) _) (by decide) lkX1_48 stX9_put okX9_put dX1_fillFromTheEnds_70 rfl rfl (Nat.le_of_ble_eq_true rfl) ?_
      refine Vs_iinc3 (q := 76) (z := none) dX1_fillFromTheEnds_73 rfl (by exact iinc_p _) (by decide) rfl ?_
      refine Vj_goto (q := 12) dX1_fillFromTheEnds_76 (by decide) ?_
      rw [nI_1]
      exact ih (b + 1) _ _ _ (by omega) ((h.uI rfl).uI rfl) ((hT.uI rfl).uI rfl) g1 ((hE.u rfl).u rfl)
set_option maxRecDepth 100000 in
theorem qX1_fillFromTheEnds_l1 {ρ : Rm} {σ0 : Mem} : ∀ (k c : Nat) (σ : Mem) (z3 z4 z5 : Option Value), c + k = 4 ^ rN ρ → RP ρ σ → RT ρ σ → FI ρ c 0 σ → Eqo [21, 22] σ0 σ → Vj shX 2 mX1_fillFromTheEnds (fun r σ' => r = none ∧ RE ρ σ' ∧ Eqo [21, 22] σ0 σ') 2 [some (.ref 20), some (.ref 10), some (.int (nI c)), z3, z4, z5] [] σ := by
  intro k
  induction k with
  | zero =>
    intro c σ z3 z4 z5 hc h hT hF hE
    have hp4 := p4_le h.1.1
    obtain rfl : c = 4 ^ rN ρ := by omega
    refine Vj_iloadn (q := 3) dX1_fillFromTheEnds_2 rfl rfl rfl ?_
    refine Vj_aloadn (q := 4) dX1_fillFromTheEnds_3 rfl rfl rfl ?_
    refine Vj_getI (q := 7) flX1_30 rfl rfl dX1_fillFromTheEnds_4 rfl ?_
    rw [hT.1]
    refine Vj_icmp_ge (q := 10) (tgt := 85) dX1_fillFromTheEnds_7 (by decide) rfl (fun _ => ?_) (fun hz => absurd (nI_le (Nat.le_refl _) (by omega)) hz)
    exact Vr_vret rfl dX1_fillFromTheEnds_85 (⟨rfl, hF.done h.1, hE⟩)
  | succ k ih =>
    intro c σ z3 z4 z5 hc h hT hF hE
    have hp4 := p4_le h.1.1
    refine Vj_iloadn (q := 3) dX1_fillFromTheEnds_2 rfl rfl rfl ?_
    refine Vj_aloadn (q := 4) dX1_fillFromTheEnds_3 rfl rfl rfl ?_
    refine Vj_getI (q := 7) flX1_30 rfl rfl dX1_fillFromTheEnds_4 rfl ?_
    rw [hT.1]
    refine Vj_icmp_ge (q := 10) (tgt := 85) dX1_fillFromTheEnds_7 (by decide) rfl (fun hz => absurd hz (nI_ge (by omega) (by omega))) (fun _ => ?_)
    refine Vj_iconst (q := 11) (v := 0) dX1_fillFromTheEnds_10 rfl (by decide) ?_
    refine Vs_istore3 (q := 12) dX1_fillFromTheEnds_11 rfl (by decide) rfl ?_
    refine qX1_fillFromTheEnds_l2 (c := c) (by omega) (fun σ2 y3 y4 y5 h2 hT2 hF2 hE2 => ?_) (rB ρ) 0 σ _ _ (by omega) h hT hF hE
    refine Vs_iinc2 (q := 82) (z := none) dX1_fillFromTheEnds_79 rfl (by exact iinc_p _) (by decide) rfl ?_
    refine Vj_goto (q := 2) dX1_fillFromTheEnds_82 (by decide) ?_
    rw [nI_1]
    exact ih (c + 1) σ2 _ _ _ (by omega) h2 hT2 hF2.turn hE2
set_option maxRecDepth 100000 in
theorem qX1_fillFromTheEnds {ρ : Rm} {σ : Mem} (h : RP ρ σ) (hT : RT ρ σ) (hF : FI ρ 0 0 σ) : Ct shX 2 mX1_fillFromTheEnds [.ref 20, .ref 10] σ (fun r σ' => r = none ∧ RE ρ σ' ∧ Eqo [21, 22] σ σ') := by
  refine Ct.of (by decide) (Nat.le_of_ble_eq_true rfl) (l := [some (.ref 20), some (.ref 10), none, none, none, none]) rfl ?_
  refine Vj_iconst (q := 1) (v := 0) dX1_fillFromTheEnds_0 rfl (by decide) ?_
  refine Vs_istore2 (q := 2) dX1_fillFromTheEnds_1 rfl (by decide) rfl ?_
  exact qX1_fillFromTheEnds_l1 (4 ^ rN ρ) 0 σ _ _ _ (by omega) h hT hF Eqo.rf
set_option maxRecDepth 100000 in
theorem qX1_make_p2 {ρ : Rm} {σ0 : Mem} {z3 z4 : Option Value} : ∀ (k c : Nat) (σ : Mem), c + k = 257 → 1 ≤ c → RP ρ σ → RT ρ σ → (∀ x, x < 257 → σ.1 21 x = if x < c then nI (eS ρ (x + 1)) else nI (eAll ρ x (4 ^ rN ρ))) → Eqo [21, 22] σ0 σ → Vj shX 3 mX1_make (PmP ρ σ0) 76 [some (.ref 20), some (.ref 10), some (.int (nI c)), z3, z4] [] σ := by
  intro k
  induction k with
  | zero =>
    intro c σ hc h1 h hT hF hE
    obtain rfl : c = 257 := by omega
    have hFI : FI ρ 0 0 σ := by
      refine ⟨fun x hx => ?_, fun x hx i g1 g2 => ?_, fun c' b' g1 g2 g3 => ?_⟩
      · rw [hF x hx, if_pos hx, eP_0, Nat.sub_zero]
      · rw [eP_0] at g1; omega
      · omega
    refine Vj_iloadn (q := 77) dX1_make_76 rfl rfl rfl ?_
    refine Vj_sipush (q := 80) (v := 256) dX1_make_77 rfl (by decide) ?_
    refine Vj_icmp_gt (q := 83) (tgt := 116) dX1_make_80 (by decide) rfl (fun _ => ?_) (fun hz => absurd (by decide) hz)
    refine Vj_aloadn (q := 117) dX1_make_116 rfl rfl rfl ?_
    refine Vj_aloadn (q := 118) dX1_make_117 rfl rfl rfl ?_
    refine Vj_callV (q := 121) (qX1_fillFromTheEnds h hT hFI) (by decide) rfl rfl lkX1_52 viX1_fillFromTheEnds okX1_fillFromTheEnds dX1_make_118 rfl rfl (Nat.le_of_ble_eq_true rfl) ?_
    rintro r σ1 ⟨rfl, g1, g2⟩
    show Vj shX 3 mX1_make _ 121 _ [] σ1
    exact Vr_vret rfl dX1_make_121 (⟨rfl, g1, (hE.tr g2).in rfl⟩)
  | succ k ih =>
    intro c σ hc h1 h hT hF hE
    refine Vj_iloadn (q := 77) dX1_make_76 rfl rfl rfl ?_
    refine Vj_sipush (q := 80) (v := 256) dX1_make_77 rfl (by decide) ?_
    refine Vj_icmp_gt (q := 83) (tgt := 116) dX1_make_80 (by decide) rfl (fun hz => absurd hz (nI_nlt (show c ≤ 256 by omega) (by decide))) (fun _ => ?_)
    refine Vj_aloadn (q := 84) dX1_make_83 rfl rfl rfl ?_
    refine Vj_getR (q := 87) flX1_9 rfl rfl dX1_make_84 rfl ?_
    refine Vj_iloadn (q := 88) dX1_make_87 rfl rfl rfl ?_
    refine Vj_aloadn (q := 89) dX1_make_88 rfl rfl rfl ?_
    refine Vj_getR (q := 92) flX1_9 rfl rfl dX1_make_89 rfl ?_
    refine Vj_iloadn (q := 93) dX1_make_92 rfl rfl rfl ?_
    refine Vj_callSi (q := 96) (qX9_atn rfl (by decide) (j := c) (by omega)) (by decide) lkX1_44 stX9_at okX9_at dX1_make_93 rfl rfl (Nat.le_of_ble_eq_true rfl) ?_
    rw [hF c (by omega), if_neg (Nat.lt_irrefl c)]
    refine Vj_aloadn (q := 97) dX1_make_96 rfl rfl rfl ?_
    refine Vj_getR (q := 100) flX1_9 rfl rfl dX1_make_97 rfl ?_
    refine Vj_iloadn (q := 101) dX1_make_100 rfl rfl rfl ?_
    refine Vj_iconst (q := 102) (v := 1) dX1_make_101 rfl (by decide) ?_
    refine Vj_isub (q := 103) dX1_make_102 rfl ?_
    rw [show (1 : Int32) = nI 1 from rfl, pk_sub h1]
    refine Vj_callSi (q := 106) (qX9_atn rfl (by decide) (j := c - 1) (by omega)) (by decide) lkX1_44 stX9_at okX9_at dX1_make_103 rfl rfl (Nat.le_of_ble_eq_true rfl) ?_
    rw [hF (c - 1) (by omega), if_pos (by omega), Nat.sub_add_cancel h1]
    refine Vj_iadd (q := 107) dX1_make_106 rfl ?_
    rw [nI_add, Nat.add_comm, ← eS_s]
    refine Vj_callSv (q := 110) (qX9_putn rfl (by decide) (j := c) (by omega) _) (by decide) lkX1_48 stX9_put okX9_put dX1_make_107 rfl rfl (Nat.le_of_ble_eq_true rfl) ?_
    refine Vs_iinc2 (q := 113) (z := none) dX1_make_110 rfl (by exact iinc_p _) (by decide) rfl ?_
    refine Vj_goto (q := 76) dX1_make_113 (by decide) ?_
    rw [nI_1]
    refine ih (c + 1) _ (by omega) (by omega) (h.uI rfl) (hT.uI rfl) (fun x hx => ?_) (hE.u rfl)
    rw [uI_eq, upd]
    by_cases e : x = c
    · rw [if_pos e, if_pos (by omega), e]
    · rw [if_neg e, hF x hx]
      by_cases e2 : x < c
      · rw [if_pos e2, if_pos (by omega)]
      · rw [if_neg e2, if_neg (by omega)]
set_option maxRecDepth 100000 in
theorem qX1_make_p1b {ρ : Rm} {σ0 : Mem} {c : Nat} (hc : c < 4 ^ rN ρ) {Post : Option Value → Mem → Prop} (kk : ∀ (σ : Mem) (z3 z4 : Option Value), RP ρ σ → RT ρ σ → (∀ x, x < 257 → σ.1 21 x = nI (eP ρ c (rB ρ) x)) → Eqo [21, 22] σ0 σ → Vj shX 3 mX1_make Post 68 [some (.ref 20), some (.ref 10), some (.int (nI c)), z3, z4] [] σ) :
    ∀ (k b : Nat) (σ : Mem) (z4 : Option Value), b + k = rB ρ → RP ρ σ → RT ρ σ → (∀ x, x < 257 → σ.1 21 x = nI (eP ρ c b x)) → Eqo [21, 22] σ0 σ → Vj shX 3 mX1_make Post 20 [some (.ref 20), some (.ref 10), some (.int (nI c)), some (.int (nI b)), z4] [] σ := by
  intro k
  induction k with
  | zero =>
    intro b σ z4 hb h hT hF hE
    have hB := h.1.2.2.1
    obtain rfl : b = rB ρ := by omega
    refine Vj_iloadn (q := 21) dX1_make_20 rfl rfl rfl ?_
    refine Vj_aloadn (q := 22) dX1_make_21 rfl rfl rfl ?_
    refine Vj_callVi (q := 25) (qX2_buttons h) (by decide) rfl rfl lkX1_36 viX2_buttons okX2_buttons dX1_make_22 rfl rfl (Nat.le_of_ble_eq_true rfl) ?_
    refine Vj_icmp_ge (q := 28) (tgt := 68) dX1_make_25 (by decide) rfl (fun _ => ?_) (fun hz => absurd (nI_le (Nat.le_refl _) (by omega)) hz)
    exact kk σ _ _ h hT hF hE
  | succ k ih =>
    intro b σ z4 hb h hT hF hE
    have hB := h.1.2.2.1
    have hp4 := p4_le h.1.1
    have hx := cNx_lt h.1 hc (show b < rB ρ by omega)
    refine Vj_iloadn (q := 21) dX1_make_20 rfl rfl rfl ?_
    refine Vj_aloadn (q := 22) dX1_make_21 rfl rfl rfl ?_
    refine Vj_callVi (q := 25) (qX2_buttons h) (by decide) rfl rfl lkX1_36 viX2_buttons okX2_buttons dX1_make_22 rfl rfl (Nat.le_of_ble_eq_true rfl) ?_
    refine Vj_icmp_ge (q := 28) (tgt := 68) dX1_make_25 (by decide) rfl (fun hz => absurd hz (nI_ge (by omega) (by omega))) (fun _ => ?_)
    refine Vj_aloadn (q := 29) dX1_make_28 rfl rfl rfl ?_
    refine Vj_iloadn (q := 30) dX1_make_29 rfl rfl rfl ?_
    refine Vj_iloadn (q := 31) dX1_make_30 rfl rfl rfl ?_
    refine Vj_callVi (q := 34) (qX2_behind (c := c) (b := b) (by omega) (by omega)) (by decide) rfl rfl lkX1_40 viX2_behind okX2_behind dX1_make_31 rfl rfl (Nat.le_of_ble_eq_true rfl) ?_
    rw [(hT.2 c hc).2.2 b (by omega)]
    refine Vs_istore4 (q := 36) dX1_make_34 rfl (by decide) rfl ?_
    refine Vj_iload (q := 38) dX1_make_36 rfl rfl ?_
    refine Vj_iloadn (q := 39) dX1_make_38 rfl rfl rfl ?_
    refine Vj_icmp_eq (q := 42) (tgt := 62) dX1_make_39 (by decide) rfl (fun h39 => ?_) (fun h39 => ?_)
    ·
      refine Vs_iinc3 (q := 65) (z := none) dX1_make_62 rfl (by exact iinc_p _) (by decide) rfl ?_
      refine Vj_goto (q := 20) dX1_make_65 (by decide) ?_
      rw [nI_1]
      have e := (nI_eq (by omega) (by omega)).mp h39
      exact ih (b + 1) σ _ (by omega) h hT (fun x hx => by rw [eP_s, if_neg (by rintro ⟨h1, h2⟩; exact h2 (h1.symm.trans e)), hF x hx]; rfl) hE
    ·
      refine Vj_aloadn (q := 43) dX1_make_42 rfl rfl rfl ?_
      refine Vj_getR (q := 46) flX1_9 rfl rfl dX1_make_43 rfl ?_
      refine Vj_iload (q := 48) dX1_make_46 rfl rfl ?_
      refine Vj_aloadn (q := 49) dX1_make_48 rfl rfl rfl ?_
      refine Vj_getR (q := 52) flX1_9 rfl rfl dX1_make_49 rfl ?_
      refine Vj_iload (q := 54) dX1_make_52 rfl rfl ?_
      refine Vj_callSi (q := 57) (qX9_atn rfl (by decide) (j := cNx ρ c b) (by omega)) (by decide) lkX1_44 stX9_at okX9_at dX1_make_54 rfl rfl (Nat.le_of_ble_eq_true rfl) ?_
      rw [hF _ (by omega)]
      refine Vj_iconst (q := 58) (v := 1) dX1_make_57 rfl (by decide) ?_
      refine Vj_iadd (q := 59) dX1_make_58 rfl ?_
      rw [nI_1]
      refine Vj_callSv (q := 62) (qX9_putn rfl (by decide) (j := cNx ρ c b) (by omega) _) (by decide) lkX1_48 stX9_put okX9_put dX1_make_59 rfl rfl (Nat.le_of_ble_eq_true rfl) ?_
      refine Vs_iinc3 (q := 65) (z := none) dX1_make_62 rfl (by exact iinc_p _) (by decide) rfl ?_
      refine Vj_goto (q := 20) dX1_make_65 (by decide) ?_
      rw [nI_1]
      have hne := nI_ne_of (by omega) (by omega) h39
      refine ih (b + 1) _ _ (by omega) (h.uI rfl) (hT.uI rfl) (fun x hx => ?_) (hE.u rfl)
      rw [uI_eq, upd, eP_s]
      by_cases e : x = cNx ρ c b
      · subst e
        rw [if_pos rfl, if_pos ⟨rfl, hne⟩]
      · rw [if_neg e, if_neg (fun z => e z.1.symm), hF x hx]
        rfl
set_option maxRecDepth 100000 in
theorem qX1_make_p1 {ρ : Rm} {σ0 : Mem} : ∀ (k c : Nat) (σ : Mem) (z3 z4 : Option Value), c + k = 4 ^ rN ρ → RP ρ σ → RT ρ σ → (∀ x, x < 257 → σ.1 21 x = nI (eP ρ c 0 x)) → Eqo [21, 22] σ0 σ → Vj shX 3 mX1_make (PmP ρ σ0) 10 [some (.ref 20), some (.ref 10), some (.int (nI c)), z3, z4] [] σ := by
  intro k
  induction k with
  | zero =>
    intro c σ z3 z4 hc h hT hF hE
    have hp4 := p4_le h.1.1
    obtain rfl : c = 4 ^ rN ρ := by omega
    refine Vj_iloadn (q := 11) dX1_make_10 rfl rfl rfl ?_
    refine Vj_aloadn (q := 12) dX1_make_11 rfl rfl rfl ?_
    refine Vj_getI (q := 15) flX1_30 rfl rfl dX1_make_12 rfl ?_
    rw [hT.1]
    refine Vj_icmp_ge (q := 18) (tgt := 74) dX1_make_15 (by decide) rfl (fun _ => ?_) (fun hz => absurd (nI_le (Nat.le_refl _) (by omega)) hz)
    refine Vj_iconst (q := 75) (v := 1) dX1_make_74 rfl (by decide) ?_
    refine Vs_istore2 (q := 76) dX1_make_75 rfl (by decide) rfl ?_
    refine qX1_make_p2 256 1 σ (by omega) (by omega) h hT (fun x hx => ?_) hE
    rw [hF x hx, eP_N]
    by_cases e : x < 1
    · obtain rfl : x = 0 := by omega
      rw [if_pos e, eS_s]
      have : eS ρ 0 = 0 := rfl
      rw [this, Nat.zero_add]
    · rw [if_neg e]
  | succ k ih =>
    intro c σ z3 z4 hc h hT hF hE
    have hp4 := p4_le h.1.1
    refine Vj_iloadn (q := 11) dX1_make_10 rfl rfl rfl ?_
    refine Vj_aloadn (q := 12) dX1_make_11 rfl rfl rfl ?_
    refine Vj_getI (q := 15) flX1_30 rfl rfl dX1_make_12 rfl ?_
    rw [hT.1]
    refine Vj_icmp_ge (q := 18) (tgt := 74) dX1_make_15 (by decide) rfl (fun hz => absurd hz (nI_ge (by omega) (by omega))) (fun _ => ?_)
    refine Vj_iconst (q := 19) (v := 0) dX1_make_18 rfl (by decide) ?_
    refine Vs_istore3 (q := 20) dX1_make_19 rfl (by decide) rfl ?_
    refine qX1_make_p1b (c := c) (by omega) (fun σ2 y3 y4 h2 hT2 hF2 hE2 => ?_) (rB ρ) 0 σ _ (by omega) h hT hF hE
    refine Vs_iinc2 (q := 71) (z := none) dX1_make_68 rfl (by exact iinc_p _) (by decide) rfl ?_
    refine Vj_goto (q := 10) dX1_make_71 (by decide) ?_
    rw [nI_1]
    exact ih (c + 1) σ2 _ _ (by omega) h2 hT2 (fun x hx => by rw [eP_c]; exact hF2 x hx) hE2
set_option maxRecDepth 100000 in
theorem qX1_make {ρ : Rm} {σ : Mem} (h : RP ρ σ) (hT : RT ρ σ) : Ct shX 3 mX1_make [.ref 20, .ref 10] σ (PmP ρ σ) := by
  refine Ct.of (by decide) (Nat.le_of_ble_eq_true rfl) (l := [some (.ref 20), some (.ref 10), none, none, none]) rfl ?_
  refine Vj_aloadn (q := 1) dX1_make_0 rfl rfl rfl ?_
  refine Vj_getR (q := 4) flX1_9 rfl rfl dX1_make_1 rfl ?_
  refine Vj_iconst (q := 5) (v := 0) dX1_make_4 rfl (by decide) ?_
  refine Vj_callSv (q := 8) (qJ7_fill_53178 rfl (by decide) 0) (by decide) lkX1_24 stJ7_fill_53178 okJ7_fill_53178 dX1_make_5 rfl rfl (Nat.le_of_ble_eq_true rfl) ?_
  refine Vj_iconst (q := 9) (v := 0) dX1_make_8 rfl (by decide) ?_
  refine Vs_istore2 (q := 10) dX1_make_9 rfl (by decide) rfl ?_
  refine qX1_make_p1 (4 ^ rN ρ) 0 _ _ _ (by omega) (h.fill rfl) (hT.fill rfl) (fun x hx => ?_) (Eqo.rf.fill rfl)
  rw [fillM_eq]
  simp only []
  rw [if_pos hx, eP_0]
  rfl
end
section
/-! distances in a graph: by the definition, and what a search must keep -/
def chB (ch b : Nat) : Bool := decide (ch / 2 ^ b % 2 = 1)
/-- c comes to the target by at most k presses of the chosen ones -/
def wi (nx : Nat → Nat → Nat) (nb ch to : Nat) : Nat → Nat → Bool
  | 0, c => c == to
  | k + 1, c => wi nx nb ch to k c || (List.range nb).any (fun b => chB ch b && wi nx nb ch to k (nx c b))
/-- the least k below n with p k -/
def fstN (p : Nat → Bool) : Nat → Option Nat
  | 0 => none
  | n + 1 => match fstN p n with
    | some k => some k
    | none => if p n then some n else none
theorem fstN_none {p : Nat → Bool} : ∀ n, fstN p n = none ↔ ∀ j, j < n → p j = false
  | 0 => by simp [fstN]
  | n + 1 => by
    have ih := fstN_none (p := p) n
    rw [fstN]
    cases h : fstN p n with
    | some k =>
      rw [h] at ih
      constructor
      · intro z; cases z
      · intro z
        have := ih.mpr (fun j hj => z j (by omega))
        cases this
    | none =>
      have ih := ih.mp h
      by_cases e : p n = true
      · rw [if_pos e]
        constructor
        · intro z; cases z
        · intro z; rw [z n (by omega)] at e; cases e
      · rw [if_neg e]
        refine ⟨fun _ j hj => ?_, fun _ => rfl⟩
        by_cases ej : j = n
        · subst ej; exact Bool.eq_false_iff.mpr e
        · exact ih j (by omega)
theorem fstN_some {p : Nat → Bool} {k : Nat} : ∀ n, fstN p n = some k ↔ k < n ∧ p k = true ∧ ∀ j, j < k → p j = false
  | 0 => by simp [fstN]
  | n + 1 => by
    have ih := fstN_some (p := p) (k := k) n
    have i0 := fstN_none (p := p) n
    rw [fstN]
    cases h : fstN p n with
    | some k' =>
      rw [h] at ih i0
      constructor
      · intro z
        obtain ⟨h1, h2, h3⟩ := ih.mp z
        exact ⟨by omega, h2, h3⟩
      · rintro ⟨h1, h2, h3⟩
        by_cases e : k = n
        · subst e
          have := i0.mpr h3
          cases this
        · exact ih.mpr ⟨by omega, h2, h3⟩
    | none =>
      have i0 := i0.mp h
      by_cases e : p n = true
      · rw [if_pos e]
        constructor
        · intro z
          cases z
          exact ⟨by omega, e, i0⟩
        · rintro ⟨h1, h2, h3⟩
          by_cases ek : k = n
          · rw [ek]
          · rw [i0 k (by omega)] at h2; cases h2
      · rw [if_neg e]
        constructor
        · intro z; cases z
        · rintro ⟨h1, h2, h3⟩
          by_cases ek : k = n
          · subst ek; exact absurd h2 e
          · rw [i0 k (by omega)] at h2; cases h2
def dst (nx : Nat → Nat → Nat) (nb ch to c : Nat) : Option Nat := fstN (fun k => wi nx nb ch to k c) 256
/-- how many below n have p -/
def cntN (p : Nat → Bool) : Nat → Nat
  | 0 => 0
  | n + 1 => cntN p n + if p n then 1 else 0
theorem cntN_le (p : Nat → Bool) : ∀ n, cntN p n ≤ n
  | 0 => Nat.le_refl _
  | n + 1 => by have := cntN_le p n; rw [cntN]; split <;> omega
theorem cntN_congr {p q : Nat → Bool} : ∀ n, (∀ j, j < n → p j = q j) → cntN p n = cntN q n
  | 0, _ => rfl
  | n + 1, h => by rw [cntN, cntN, cntN_congr n (fun j hj => h j (by omega)), h n (by omega)]
theorem cntN_set {p q : Nat → Bool} {f : Nat} (hp : p f = false) (hq : q f = true) (h : ∀ j, j ≠ f → q j = p j) : ∀ n, cntN q n = cntN p n + if f < n then 1 else 0
  | 0 => rfl
  | n + 1 => by
    rw [cntN, cntN, cntN_set hp hq h n]
    by_cases e : n = f
    · subst e
      rw [hq, hp, if_neg (Nat.lt_irrefl n), if_pos (Nat.lt_succ_self n)]
      simp
    · rw [h n e]
      by_cases e2 : f < n
      · rw [if_pos e2, if_pos (show f < n + 1 by omega)]; omega
      · rw [if_neg e2, if_neg (show ¬ f < n + 1 by omega)]; omega
theorem cntN_one {p : Nat → Bool} {f : Nat} (h : ∀ j, p j = true ↔ j = f) : ∀ n, cntN p n = if f < n then 1 else 0
  | 0 => rfl
  | n + 1 => by
    rw [cntN, cntN_one h n]
    by_cases e : n = f
    · subst e
      rw [(h n).mpr rfl, if_neg (Nat.lt_irrefl n), if_pos (Nat.lt_succ_self n)]
      rfl
    · have hf : p n = false := Bool.eq_false_iff.mpr fun z => e ((h n).mp z)
      rw [hf]
      by_cases e2 : f < n
      · rw [if_pos e2, if_pos (show f < n + 1 by omega)]; rfl
      · rw [if_neg e2, if_neg (show ¬ f < n + 1 by omega)]; rfl
theorem cntN_pos {p : Nat → Bool} {f : Nat} (h : p f = true) : ∀ n, f < n → 0 < cntN p n
  | 0, hn => absurd hn (Nat.not_lt_zero _)
  | n + 1, hn => by
    rw [cntN]
    by_cases e : f = n
    · subst e; rw [h]; simp
    · have := cntN_pos h n (by omega); omega
/-- D is closed: what a finished search has -/
def Dcl (nx : Nat → Nat → Nat) (nb ch to N : Nat) (D : Nat → Option Nat) : Prop :=
  (∀ c, c < N → (D c = some 0 ↔ c = to)) ∧ (∀ c, c < N → ∀ k, D c = some (k + 1) → ∃ b, b < nb ∧ chB ch b = true ∧ D (nx c b) = some k) ∧
  ∀ x, x < N → ∀ k, D x = some k → ∀ c, c < N → ∀ b, b < nb → chB ch b = true → nx c b = x → ∃ k', D c = some k' ∧ k' ≤ k + 1
theorem wi_s {nx : Nat → Nat → Nat} {nb ch to k c : Nat} : wi nx nb ch to (k + 1) c = true ↔ wi nx nb ch to k c = true ∨ ∃ b, b < nb ∧ chB ch b = true ∧ wi nx nb ch to k (nx c b) = true := by
  rw [wi, Bool.or_eq_true, List.any_eq_true]
  constructor
  · rintro (h | ⟨b, h1, h2⟩)
    · exact Or.inl h
    · rw [Bool.and_eq_true] at h2
      exact Or.inr ⟨b, List.mem_range.mp h1, h2.1, h2.2⟩
  · rintro (h | ⟨b, h1, h2, h3⟩)
    · exact Or.inl h
    · exact Or.inr ⟨b, List.mem_range.mpr h1, by rw [h2, h3]; rfl⟩
theorem wi_mono {nx : Nat → Nat → Nat} {nb ch to c : Nat} {a b : Nat} (h : a ≤ b) (hw : wi nx nb ch to a c = true) : wi nx nb ch to b c = true := by
  induction b with
  | zero => rw [Nat.le_zero.mp h] at hw; exact hw
  | succ b ih =>
    by_cases e : a = b + 1
    · rw [← e]; exact hw
    · exact wi_s.mpr (Or.inl (ih (by omega)))
theorem Dcl.wi {nx : Nat → Nat → Nat} {nb ch to N : Nat} {D : Nat → Option Nat} (hN : ∀ c, c < N → ∀ b, b < nb → nx c b < N) (h : Dcl nx nb ch to N D) : ∀ k c, c < N → (wi nx nb ch to k c = true ↔ ∃ k', k' ≤ k ∧ D c = some k') := by
  intro k
  induction k with
  | zero =>
    intro c hc
    rw [Jvm.Pilot.CFiveRemotesLaw_law_r6148_70d490.wi, beq_iff_eq, ← h.1 c hc]
    constructor
    · intro z; exact ⟨0, Nat.le_refl _, z⟩
    · rintro ⟨k', h1, h2⟩; rw [Nat.le_zero.mp h1] at h2; exact h2
  | succ k ih =>
    intro c hc
    rw [wi_s]
    constructor
    · rintro (z | ⟨b, h1, h2, h3⟩)
      · obtain ⟨k', g1, g2⟩ := (ih c hc).mp z
        exact ⟨k', by omega, g2⟩
      · obtain ⟨k', g1, g2⟩ := (ih _ (hN c hc b h1)).mp h3
        obtain ⟨k2, g3, g4⟩ := h.2.2 _ (hN c hc b h1) k' g2 c hc b h1 h2 rfl
        exact ⟨k2, by omega, g3⟩
    · rintro ⟨k', h1, h2⟩
      by_cases e : k' ≤ k
      · exact Or.inl ((ih c hc).mpr ⟨k', e, h2⟩)
      · obtain rfl : k' = k + 1 := by omega
        obtain ⟨b, g1, g2, g3⟩ := h.2.1 c hc k h2
        exact Or.inr ⟨b, g1, g2, (ih _ (hN c hc b g1)).mpr ⟨k, Nat.le_refl _, g3⟩⟩
theorem Dcl.dst {nx : Nat → Nat → Nat} {nb ch to N : Nat} {D : Nat → Option Nat} (hN : ∀ c, c < N → ∀ b, b < nb → nx c b < N) (h : Dcl nx nb ch to N D) (hb : ∀ c, c < N → ∀ k, D c = some k → k < 256) : ∀ c, c < N → dst nx nb ch to c = D c := by
  intro c hc
  unfold Jvm.Pilot.CFiveRemotesLaw_law_r6148_70d490.dst
  cases e : D c with
  | none =>
    rw [fstN_none]
    intro j _
    refine Bool.eq_false_iff.mpr fun z => ?_
    obtain ⟨k', -, h2⟩ := (h.wi hN j c hc).mp z
    rw [e] at h2; cases h2
  | some k =>
    rw [fstN_some]
    refine ⟨hb c hc k e, (h.wi hN k c hc).mpr ⟨k, Nat.le_refl _, e⟩, fun j hj => Bool.eq_false_iff.mpr fun z => ?_⟩
    obtain ⟨k', h1, h2⟩ := (h.wi hN j c hc).mp z
    rw [e] at h2; cases h2
    omega
/-! a search by a row of codes -/
/-- i codes of the row Q of m are done -/
def BI (nx : Nat → Nat → Nat) (nb ch to N i : Nat) (D : Nat → Option Nat) (Q : Nat → Nat) (m : Nat) : Prop :=
  m = cntN (fun c => (D c).isSome) N ∧ (∀ j, j < m → Q j < N ∧ ∃ k, k ≤ j ∧ D (Q j) = some k) ∧ (∀ c, c < N → (D c).isSome = true → ∃ j, j < m ∧ Q j = c) ∧
  (∀ j j', j ≤ j' → j' < m → ∀ k k', D (Q j) = some k → D (Q j') = some k' → k ≤ k') ∧
  (i < m → ∀ j, j < m → ∀ k k', D (Q i) = some k → D (Q j) = some k' → k' ≤ k + 1) ∧
  (∀ c, c < N → (D c = some 0 ↔ c = to)) ∧ (∀ c, c < N → ∀ k, D c = some (k + 1) → ∃ b, b < nb ∧ chB ch b = true ∧ D (nx c b) = some k) ∧
  ∀ j, j < i → j < m → ∀ k, D (Q j) = some k → ∀ c, c < N → ∀ b, b < nb → chB ch b = true → nx c b = Q j → ∃ k', D c = some k' ∧ k' ≤ k + 1
theorem BI.start {nx : Nat → Nat → Nat} {nb ch to N : Nat} (ht : to < N) : BI nx nb ch to N 0 (fun c => if c = to then some 0 else none) (fun _ => to) 1 := by
  refine ⟨?_, fun j hj => ⟨ht, 0, Nat.zero_le _, by simp⟩, fun c hc h => ⟨0, by decide, ?_⟩, fun j j' _ _ k k' h1 h2 => ?_, fun _ j hj k k' h1 h2 => ?_, fun c hc => ?_, fun c hc k h => ?_, fun j hj => absurd hj (Nat.not_lt_zero _)⟩
  · rw [cntN_one (f := to) (fun j => by by_cases e : j = to <;> simp [e]) N, if_pos ht]
  · by_cases e : c = to
    · exact e.symm
    · simp [e] at h
  · simp at h1 h2; omega
  · simp at h1 h2; omega
  · by_cases e : c = to <;> simp [e]
  · by_cases e : c = to
    · simp [e] at h
    · simp [e] at h
/-- a new code f is found from x = Q i -/
theorem BI.find {nx : Nat → Nat → Nat} {nb ch to N i : Nat} {D : Nat → Option Nat} {Q : Nat → Nat} {m k0 f b : Nat} (h : BI nx nb ch to N i D Q m) (hi : i < m) (hk : D (Q i) = some k0) (hf : f < N) (hn : D f = none) (hb : b < nb) (hc : chB ch b = true) (hx : nx f b = Q i) :
    BI nx nb ch to N i (fun c => if c = f then some (k0 + 1) else D c) (fun j => if j = m then f else Q j) (m + 1) ∧ m < N := by
  obtain ⟨h1, h2, h3, h4, h5, h6, h7, h8⟩ := h
  have hQ : ∀ j, j < m → Q j ≠ f := fun j hj e => by
    obtain ⟨k, -, z⟩ := (h2 j hj).2
    rw [e, hn] at z; cases z
  have hk0 : k0 ≤ i := by
    obtain ⟨k, z1, z2⟩ := (h2 i hi).2
    rw [hk] at z2; cases z2; exact z1
  have hDQ : ∀ j, j < m → (if Q j = f then some (k0 + 1) else D (Q j)) = D (Q j) := fun j hj => if_neg (hQ j hj)
  have hcnt := cntN_set (p := fun c => (D c).isSome) (q := fun c => (if c = f then some (k0 + 1) else D c).isSome) (f := f) (by simp [hn]) (by simp) (fun j hj => by simp [hj]) N
  rw [if_pos hf] at hcnt
  have hmN := cntN_le (fun c => (if c = f then some (k0 + 1) else D c).isSome) N
  have hto : f ≠ to := fun e => by rw [(h6 f hf).mpr e] at hn; cases hn
  refine ⟨⟨by rw [hcnt, h1], fun j hj => ?_, fun c hc' hs => ?_, fun j j' hjj hj k k' e1 e2 => ?_, fun _ j hj k k' e1 e2 => ?_, fun c hc' => ?_, fun c hc' k e => ?_, fun j hji hj k e c hc' b' hb' hch hnx => ?_⟩, by omega⟩
  · by_cases e : j = m
    · simp only [e, if_pos]
      exact ⟨hf, k0 + 1, by omega, rfl⟩
    · simp only [if_neg e, hDQ j (by omega)]
      exact h2 j (by omega)
  · by_cases e : c = f
    · exact ⟨m, by omega, by simp [e]⟩
    · simp only [if_neg e] at hs
      obtain ⟨j, z1, z2⟩ := h3 c hc' hs
      exact ⟨j, by omega, by simp only [if_neg (show j ≠ m by omega)]; exact z2⟩
  · by_cases ej' : j' = m
    · by_cases ej : j = m
      · rw [ej] at e1; rw [ej'] at e2
        rw [e1] at e2; cases e2; exact Nat.le_refl _
      · simp only [if_neg ej, hDQ j (by omega)] at e1
        simp only [ej', if_pos] at e2
        cases e2
        exact h5 hi j (by omega) k0 k hk e1
    · have ej : j ≠ m := by omega
      simp only [if_neg ej, hDQ j (by omega)] at e1
      simp only [if_neg ej', hDQ j' (by omega)] at e2
      exact h4 j j' hjj (by omega) k k' e1 e2
  · have ei : i ≠ m := by omega
    simp only [if_neg ei, hDQ i hi] at e1
    rw [hk] at e1; cases e1
    by_cases ej : j = m
    · simp only [ej, if_pos] at e2
      cases e2; exact Nat.le_refl _
    · simp only [if_neg ej, hDQ j (by omega)] at e2
      exact h5 hi j (by omega) _ k' hk e2
  · by_cases e : c = f
    · subst e
      simp only [if_pos]
      constructor
      · intro z; cases z
      · intro z; exact absurd z hto
    · simp only [if_neg e]
      exact h6 c hc'
  · by_cases ec : c = f
    · subst ec
      simp only [if_pos] at e
      cases e
      refine ⟨b, hb, hc, ?_⟩
      simp only [hx]
      rw [hDQ i hi]
      exact hk
    · simp only [if_neg ec] at e
      obtain ⟨b', z1, z2, z3⟩ := h7 c hc' k e
      refine ⟨b', z1, z2, ?_⟩
      have : nx c b' ≠ f := fun z => by rw [z, hn] at z3; cases z3
      simp only [if_neg this]
      exact z3
  · have ej : j ≠ m := by omega
    simp only [if_neg ej] at hnx
    simp only [if_neg ej, hDQ j (by omega)] at e
    by_cases ec : c = f
    · subst ec
      obtain ⟨k', z1, z2⟩ := h8 j hji (by omega) k e c hc' b' hb' hch hnx
      rw [hn] at z1; cases z1
    · simp only [if_neg ec]
      exact h8 j hji (by omega) k e c hc' b' hb' hch hnx
/-- Q i is done -/
theorem BI.step {nx : Nat → Nat → Nat} {nb ch to N i : Nat} {D : Nat → Option Nat} {Q : Nat → Nat} {m k0 : Nat} (h : BI nx nb ch to N i D Q m) (hi : i < m) (hk : D (Q i) = some k0)
    (hd : ∀ c, c < N → ∀ b, b < nb → chB ch b = true → nx c b = Q i → ∃ k', D c = some k' ∧ k' ≤ k0 + 1) : BI nx nb ch to N (i + 1) D Q m := by
  obtain ⟨h1, h2, h3, h4, h5, h6, h7, h8⟩ := h
  refine ⟨h1, h2, h3, h4, fun hi' j hj k k' e1 e2 => ?_, h6, h7, fun j hji hj k e c hc' b' hb' hch hnx => ?_⟩
  · have z1 := h5 hi j hj k0 k' hk e2
    have z2 := h4 i (i + 1) (by omega) hi' k0 k hk e1
    omega
  · by_cases ej : j = i
    · subst ej
      rw [hk] at e; cases e
      exact hd c hc' b' hb' hch hnx
    · exact h8 j (by omega) hj k e c hc' b' hb' hch hnx
/-- all is done -/
theorem BI.done {nx : Nat → Nat → Nat} {nb ch to N i : Nat} {D : Nat → Option Nat} {Q : Nat → Nat} {m : Nat} (h : BI nx nb ch to N i D Q m) (hi : m ≤ i) : Dcl nx nb ch to N D := by
  obtain ⟨h1, h2, h3, h4, h5, h6, h7, h8⟩ := h
  refine ⟨h6, h7, fun x hx k e c hc b hb hch hnx => ?_⟩
  obtain ⟨j, z1, z2⟩ := h3 x hx (by rw [e]; rfl)
  exact h8 j (by omega) z1 k (by rw [z2]; exact e) c hc b hb hch (by rw [z2]; exact hnx)
theorem BI.k_lt {nx : Nat → Nat → Nat} {nb ch to N i : Nat} {D : Nat → Option Nat} {Q : Nat → Nat} {m : Nat} (h : BI nx nb ch to N i D Q m) (hN : N ≤ 256) : m ≤ 256 ∧ ∀ c, c < N → ∀ k, D c = some k → k < 256 := by
  obtain ⟨h1, h2, h3, h4, h5, h6, h7, h8⟩ := h
  have hm : m ≤ 256 := by have := cntN_le (fun c => (D c).isSome) N; omega
  refine ⟨hm, fun c hc k e => ?_⟩
  obtain ⟨j, z1, z2⟩ := h3 c hc (by rw [e]; rfl)
  obtain ⟨k', z3, z4⟩ := (h2 j z1).2
  rw [z2, e] at z4; cases z4
  omega
theorem oI_m1 {o : Option Nat} (h : ∀ k, o = some k → k < 2 ^ 31) : oI o = -1 ↔ o = none := by
  cases o with
  | none => simp [oI]
  | some k =>
    have hk := h k rfl
    simp only [oI]
    constructor
    · intro z
      have := nI_pos' hk
      rw [z] at this
      exact absurd this (by decide)
    · intro z; cases z
theorem nI_mod {a d : Nat} (ha : a < 2 ^ 31) (h0 : 0 < d) (hd : d < 2 ^ 31) : nI a % nI d = nI (a % d) := by
  rw [← irem_eq_mod, pk_rem ha h0 hd]
theorem i_chb : ∀ ch, ch < 64 → ∀ b, b < 6 → (nI ch >>> (nI b &&& 31)) &&& 1 = nI (ch / 2 ^ b % 2) := by decide +kernel
theorem chB_t {ch b : Nat} (h : nI (ch / 2 ^ b % 2) = 1) : chB ch b = true := by
  have h2 := Nat.mod_lt (ch / 2 ^ b) (show 2 > 0 by decide)
  exact decide_eq_true ((nI_eq (by omega) (by decide)).mp (show nI (ch / 2 ^ b % 2) = nI 1 from h))
theorem chB_f {ch b : Nat} (h : ¬ nI (ch / 2 ^ b % 2) = 1) : chB ch b = false := decide_eq_false fun z => h (by rw [z]; rfl)
end
section
/-! Paths: a search -/
/-- what the search's cells hold -/
def BS (ρ : Rm) (D : Nat → Option Nat) (Q : Nat → Nat) (m : Nat) (σ : Mem) : Prop := (∀ c, c < 4 ^ rN ρ → σ.1 23 c = oI (D c)) ∧ (∀ j, j < m → σ.1 24 j = nI (Q j)) ∧ σ.1 20 4 = nI m
def RfP (ρ : Rm) (ch to i : Nat) (σ0 : Mem) : Option Value → Mem → Prop := fun r σ' => r = none ∧ (∃ D Q m, i < m ∧ BS ρ D Q m σ' ∧ BI (cNx ρ) (rB ρ) ch to (4 ^ rN ρ) (i + 1) D Q m) ∧ Eqo [20, 23, 24] σ0 σ'
theorem RP.eqo {ρ : Rm} {σ σ' : Mem} {S : List Nat} (h : RP ρ σ) (hE : Eqo S σ σ') (hS : (S.contains 11 || S.contains 12 || S.contains 14 || S.contains 15 || S.contains 16) = false) : RP ρ σ' := by
  simp only [Bool.or_eq_false_iff] at hS
  exact h.of (hE.at _ hS.1.1.1.1) (hE.at _ hS.1.1.1.2) (hE.at _ hS.1.1.2) (hE.at _ hS.1.2) (hE.at _ hS.2)
theorem RT.eqo {ρ : Rm} {σ σ' : Mem} {S : List Nat} (h : RT ρ σ) (hE : Eqo S σ σ') (hS : (S.contains 10 || S.contains 17 || S.contains 18 || S.contains 19) = false) : RT ρ σ' := by
  simp only [Bool.or_eq_false_iff] at hS
  exact h.of (hE.at _ hS.1.1.1) (hE.at _ hS.1.1.2) (hE.at _ hS.1.2) (hE.at _ hS.2)
theorem RE.eqo {ρ : Rm} {σ σ' : Mem} {S : List Nat} (h : RE ρ σ) (hE : Eqo S σ σ') (hS : (S.contains 21 || S.contains 22) = false) : RE ρ σ' := by
  simp only [Bool.or_eq_false_iff] at hS
  exact h.of (hE.at _ hS.1) (hE.at _ hS.2)
theorem BS.find {ρ : Rm} {D : Nat → Option Nat} {Q : Nat → Nat} {m f k : Nat} {σ : Mem} (h : BS ρ D Q m σ) : BS ρ (fun c => if c = f then some (k + 1) else D c) (fun j => if j = m then f else Q j) (m + 1) (uI (uI (uI σ 23 f (nI (k + 1))) 24 m (nI f)) 20 4 (nI (m + 1))) := by
  refine ⟨fun c hc => ?_, fun j hj => ?_, by simp [uI, upd]⟩
  · rw [uI_ne (by decide), uI_ne (by decide), uI_eq, upd]
    by_cases e : c = f
    · simp only [e, if_pos]; rfl
    · simp only [if_neg e]; exact h.1 c hc
  · rw [uI_ne (by decide), uI_eq, upd, uI_ne (by decide)]
    by_cases e : j = m
    · simp only [e, if_pos]
    · simp only [if_neg e]; exact h.2.1 j (by omega)
theorem p_div6 {f b : Nat} (hf : f < 256) (hb : b < 6) : nI (f * 6 + b) / 6 = nI f := by
  rw [show (6 : Int32) = nI 6 from rfl, pk_div (by omega) (by decide) (by decide)]
  congr 1; omega
theorem p_mod6 {f b : Nat} (hf : f < 256) (hb : b < 6) : nI (f * 6 + b) % 6 = nI b := by
  rw [show (6 : Int32) = nI 6 from rfl, nI_mod (by omega) (by decide) (by decide)]
  congr 1; omega

set_option maxRecDepth 100000 in
theorem qX1_reachFrom_loop {ρ : Rm} (hr : okR ρ) {ch to i x : Nat} (hch : ch < 64) {σ0 : Mem} (hRE : RE ρ σ0) (hx : x < 4 ^ rN ρ) : ∀ (n e : Nat) (σ : Mem) (D : Nat → Option Nat) (Q : Nat → Nat) (m k0 : Nat) (z5 z6 z7 : Option Value), e + n = eS ρ (x + 1) → eS ρ x ≤ e → Q i = x → i < m → D (Q i) = some k0 → BS ρ D Q m σ → BI (cNx ρ) (rB ρ) ch to (4 ^ rN ρ) i D Q m →
    (∀ idx, eS ρ x ≤ idx → idx < e → ∀ f b, f < 4 ^ rN ρ → b < rB ρ → σ.1 22 idx = nI (f * 6 + b) → chB ch b = true → ∃ k', D f = some k' ∧ k' ≤ k0 + 1) → Eqo [20, 23, 24] σ0 σ →
    Vj shX 1 mX1_reachFrom (RfP ρ ch to i σ0) 21 [some (.ref 20), some (.int (nI x)), some (.int (nI ch)), some (.int (nI (eS ρ (x + 1)))), some (.int (nI e)), z5, z6, z7] [] σ := by
  intro n
  induction n with
  | zero =>
    intro e σ D Q m k0 z5 z6 z7 he hge hQ hi hk hB hI hp hE
    have hp4 := p4_le hr.1
    have hL := eS_le hr (x + 1)
    have hE22 : σ.1 22 = σ0.1 22 := hE.at 22 rfl
    obtain rfl : e = eS ρ (x + 1) := by omega
    refine Vj_iload (q := 23) dX1_reachFrom_21 rfl rfl ?_
    refine Vj_iloadn (q := 24) dX1_reachFrom_23 rfl rfl rfl ?_
    refine Vj_icmp_ge (q := 27) (tgt := 123) dX1_reachFrom_24 (by decide) rfl (fun _ => ?_) (fun hz => absurd (nI_le (Nat.le_refl _) (by omega)) hz)
    refine Vr_vret rfl dX1_reachFrom_123 ?_
    refine ⟨rfl, ⟨D, Q, m, hi, hB, hI.step hi hk ?_⟩, hE⟩
    intro c hc b hb hcb hnx
    rw [hQ] at hnx
    by_cases ec : x = c
    · subst ec; rw [hQ] at hk; exact ⟨k0, hk, by omega⟩
    · obtain ⟨idx, g1, g2, g3⟩ := (hRE x hx).2.2.2 c b hc hb hnx ec
      exact hp idx g1 (by omega) c b hc hb (by rw [hE22, g3]) hcb
  | succ n ih =>
    intro e σ D Q m k0 z5 z6 z7 he hge hQ hi hk hB hI hp hE
    have hp4 := p4_le hr.1
    have hL := eS_le hr (x + 1)
    have hB6 := hr.2.2.1
    have hE22 : σ.1 22 = σ0.1 22 := hE.at 22 rfl
    obtain ⟨hm, hkl⟩ := hI.k_lt hp4
    obtain ⟨f, b, hf, hb, hfx, hxf, hed⟩ := (hRE x hx).2.2.1 e hge (by omega)
    have hk256 := hkl (Q i) (by rw [hQ]; exact hx) k0 hk
    -- the edge is known: which f, b an index holds
    have huniq : ∀ f' b', f' < 4 ^ rN ρ → b' < rB ρ → nI (f * 6 + b) = nI (f' * 6 + b') → f' = f ∧ b' = b := by
      intro f' b' h1 h2 h3
      have := (nI_eq (by omega) (by omega)).mp h3
      omega
    refine Vj_iload (q := 23) dX1_reachFrom_21 rfl rfl ?_
    refine Vj_iloadn (q := 24) dX1_reachFrom_23 rfl rfl rfl ?_
    refine Vj_icmp_ge (q := 27) (tgt := 123) dX1_reachFrom_24 (by decide) rfl (fun hz => absurd hz (nI_ge (by omega) (by omega))) (fun _ => ?_)
    refine Vj_aloadn (q := 28) dX1_reachFrom_27 rfl rfl rfl ?_
    refine Vj_getR (q := 31) flX1_15 rfl rfl dX1_reachFrom_28 rfl ?_
    refine Vj_iload (q := 33) dX1_reachFrom_31 rfl rfl ?_
    refine Vj_callSi (q := 36) (qX9_atn rfl (by decide) (j := e) (by omega)) (by decide) lkX1_44 stX9_at okX9_at dX1_reachFrom_33 rfl rfl (Nat.le_of_ble_eq_true rfl) ?_
    rw [hE22, hed]
    refine Vs_istore5 (q := 38) dX1_reachFrom_36 rfl (by decide) rfl ?_
    refine Vj_iload (q := 40) dX1_reachFrom_38 rfl rfl ?_
    refine Vj_bipush (q := 42) (v := 6) dX1_reachFrom_40 rfl (by decide) ?_
    refine Vj_idiv (q := 43) dX1_reachFrom_42 rfl (by decide) ?_
    rw [p_div6 (by omega) (by omega)]
    refine Vs_istore6 (q := 45) dX1_reachFrom_43 rfl (by decide) rfl ?_
    refine Vj_iload (q := 47) dX1_reachFrom_45 rfl rfl ?_
    refine Vj_bipush (q := 49) (v := 6) dX1_reachFrom_47 rfl (by decide) ?_
    refine Vj_irem (q := 50) dX1_reachFrom_49 rfl (by decide) ?_
    rw [p_mod6 (by omega) (by omega)]
    refine Vs_istore7 (q := 52) dX1_reachFrom_50 rfl (by decide) rfl ?_
    refine Vj_iloadn (q := 53) dX1_reachFrom_52 rfl rfl rfl ?_
    refine Vj_iload (q := 55) dX1_reachFrom_53 rfl rfl ?_
    refine Vj_ishr (q := 56) dX1_reachFrom_55 rfl ?_
    refine Vj_iconst (q := 57) (v := 1) dX1_reachFrom_56 rfl (by decide) ?_
    refine Vj_iand (q := 58) dX1_reachFrom_57 rfl ?_
    rw [i_chb _ hch _ (by omega)]
    refine Vj_iconst (q := 59) (v := 1) dX1_reachFrom_58 rfl (by decide) ?_
    refine Vj_icmp_ne (q := 62) (tgt := 117) dX1_reachFrom_59 (by decide) rfl (fun h59 => ?_) (fun h59 => ?_)
    ·
      refine Vs_iinc4 (q := 120) (z := none) dX1_reachFrom_117 rfl (by exact iinc_p _) (by decide) rfl ?_
      refine Vj_goto (q := 21) dX1_reachFrom_120 (by decide) ?_
      rw [nI_1]
      refine ih (e + 1) σ D Q m k0 _ _ _ (by omega) (by omega) hQ hi hk hB hI (fun idx g1 g2 f' b' g3 g4 g5 g6 => ?_) hE
      by_cases ei : idx = e
      · subst ei
        rw [hE22, hed] at g5
        obtain ⟨rfl, rfl⟩ := huniq f' b' g3 g4 g5
        rw [chB_f h59] at g6; cases g6
      · exact hp idx g1 (by omega) f' b' g3 g4 g5 g6
    ·
      refine Vj_aloadn (q := 63) dX1_reachFrom_62 rfl rfl rfl ?_
      refine Vj_getR (q := 66) flX1_18 rfl rfl dX1_reachFrom_63 rfl ?_
      refine Vj_iload (q := 68) dX1_reachFrom_66 rfl rfl ?_
      refine Vj_callSi (q := 71) (qX9_atn rfl (by decide) (j := f) (by omega)) (by decide) lkX1_44 stX9_at okX9_at dX1_reachFrom_68 rfl rfl (Nat.le_of_ble_eq_true rfl) ?_
      rw [hB.1 f hf]
      refine Vj_iconst (q := 72) (v := (-1)) dX1_reachFrom_71 rfl (by decide) ?_
      refine Vj_icmp_ne (q := 75) (tgt := 117) dX1_reachFrom_72 (by decide) rfl (fun h72 => ?_) (fun h72 => ?_)
      ·
        refine Vs_iinc4 (q := 120) (z := none) dX1_reachFrom_117 rfl (by exact iinc_p _) (by decide) rfl ?_
        refine Vj_goto (q := 21) dX1_reachFrom_120 (by decide) ?_
        rw [nI_1]
        refine ih (e + 1) σ D Q m k0 _ _ _ (by omega) (by omega) hQ hi hk hB hI (fun idx g1 g2 f' b' g3 g4 g5 g6 => ?_) hE
        by_cases ei : idx = e
        · subst ei
          rw [hE22, hed] at g5
          obtain ⟨rfl, rfl⟩ := huniq f' b' g3 g4 g5
          cases hDf : D f' with
          | none => rw [hDf] at h72; exact absurd rfl h72
          | some kf =>
            refine ⟨kf, rfl, ?_⟩
            obtain ⟨z1, z2, z3, z4, z5', z6', z7', z8⟩ := hI
            obtain ⟨jf, y1, y2⟩ := z3 f' hf (by rw [hDf]; rfl)
            exact z5' hi jf y1 k0 kf hk (by rw [y2]; exact hDf)
        · exact hp idx g1 (by omega) f' b' g3 g4 g5 g6
      ·
        have hcb := chB_t h59
        have hDf := (oI_m1 (fun k z => by have := hkl f hf k z; omega)).mp h72
        obtain ⟨hI2, hmN⟩ := hI.find hi hk hf hDf hb hcb (by rw [hQ]; exact hfx)
        refine Vj_aloadn (q := 76) dX1_reachFrom_75 rfl rfl rfl ?_
        refine Vj_getR (q := 79) flX1_18 rfl rfl dX1_reachFrom_76 rfl ?_
        refine Vj_iload (q := 81) dX1_reachFrom_79 rfl rfl ?_
        refine Vj_aloadn (q := 82) dX1_reachFrom_81 rfl rfl rfl ?_
        refine Vj_getR (q := 85) flX1_18 rfl rfl dX1_reachFrom_82 rfl ?_
        refine Vj_iloadn (q := 86) dX1_reachFrom_85 rfl rfl rfl ?_
        refine Vj_callSi (q := 89) (qX9_atn rfl (by decide) (j := x) (by omega)) (by decide) lkX1_44 stX9_at okX9_at dX1_reachFrom_86 rfl rfl (Nat.le_of_ble_eq_true rfl) ?_
        rw [hB.1 x hx, show D x = some k0 by rw [← hQ]; exact hk]
        refine Vj_iconst (q := 90) (v := 1) dX1_reachFrom_89 rfl (by decide) ?_
        refine Vj_iadd (q := 91) dX1_reachFrom_90 rfl ?_
        rw [show oI (some k0) + 1 = nI (k0 + 1) from nI_1 k0]
        refine Vj_callSv (q := 94) (qX9_putn rfl (by decide) (j := f) (by omega) _) (by decide) lkX1_48 stX9_put okX9_put dX1_reachFrom_91 rfl rfl (Nat.le_of_ble_eq_true rfl) ?_
        refine Vj_aloadn (q := 95) dX1_reachFrom_94 rfl rfl rfl ?_
        refine Vj_getR (q := 98) flX1_21 rfl rfl dX1_reachFrom_95 rfl ?_
        refine Vj_aloadn (q := 99) dX1_reachFrom_98 rfl rfl rfl ?_
        refine Vj_getI (q := 102) flX1_56 rfl rfl dX1_reachFrom_99 rfl ?_
        rw [uI_ne (by decide), hB.2.2]
        refine Vj_iload (q := 104) dX1_reachFrom_102 rfl rfl ?_
        refine Vj_callSv (q := 107) (qX9_putn rfl (by decide) (j := m) (by omega) _) (by decide) lkX1_48 stX9_put okX9_put dX1_reachFrom_104 rfl rfl (Nat.le_of_ble_eq_true rfl) ?_
        refine Vj_aloadn (q := 108) dX1_reachFrom_107 rfl rfl rfl ?_
        refine Vj_dup (q := 109) dX1_reachFrom_108 rfl rfl ?_
        refine Vj_getI (q := 112) flX1_56 rfl rfl dX1_reachFrom_109 rfl ?_
        rw [uI_ne (by decide), uI_ne (by decide), hB.2.2]
        refine Vj_iconst (q := 113) (v := 1) dX1_reachFrom_112 rfl (by decide) ?_
        refine Vj_iadd (q := 114) dX1_reachFrom_113 rfl ?_
        rw [nI_1]
        refine Vj_putI (q := 117) flX1_56 rfl rfl dX1_reachFrom_114 rfl ?_
        refine Vs_iinc4 (q := 120) (z := none) dX1_reachFrom_117 rfl (by exact iinc_p _) (by decide) rfl ?_
        refine Vj_goto (q := 21) dX1_reachFrom_120 (by decide) ?_
        rw [nI_1]
        have hQf : ∀ j, j < m → Q j ≠ f := fun j hj e => by
          obtain ⟨k, -, z⟩ := (hI.2.1 j hj).2
          rw [e, hDf] at z; cases z
        refine ih (e + 1) _ _ _ (m + 1) k0 _ _ _ (by omega) (by omega) ?_ (by omega) ?_ hB.find hI2 (fun idx g1 g2 f' b' g3 g4 g5 g6 => ?_) (((hE.u rfl).u rfl).u rfl)
        · rw [if_neg (show i ≠ m by omega)]; exact hQ
        · simp only [if_neg (show i ≠ m by omega), if_neg (hQf i hi)]; exact hk
        · rw [uI_ne (by decide), uI_ne (by decide), uI_ne (by decide)] at g5
          by_cases ef : f' = f
          · exact ⟨k0 + 1, by simp [ef], Nat.le_refl _⟩
          · simp only [if_neg ef]
            by_cases ei : idx = e
            · subst ei
              rw [hE22, hed] at g5
              exact absurd (huniq f' b' g3 g4 g5).1 ef
            · exact hp idx g1 (by omega) f' b' g3 g4 g5 g6
set_option maxRecDepth 100000 in
theorem qX1_reachFrom {ρ : Rm} (hr : okR ρ) {ch to i : Nat} (hch : ch < 64) {D : Nat → Option Nat} {Q : Nat → Nat} {m : Nat} {σ : Mem} (hRE : RE ρ σ) (hi : i < m) (hB : BS ρ D Q m σ) (hI : BI (cNx ρ) (rB ρ) ch to (4 ^ rN ρ) i D Q m) : Ct shX 1 mX1_reachFrom [.ref 20, .int (nI (Q i)), .int (nI ch)] σ (RfP ρ ch to i σ) := by
  have hp4 := p4_le hr.1
  have hx := (hI.2.1 i hi).1
  obtain ⟨k0, -, hk⟩ := (hI.2.1 i hi).2
  obtain ⟨e1, e2, -, -⟩ := hRE (Q i) hx
  refine Ct.of (by decide) (Nat.le_of_ble_eq_true rfl) (l := [some (.ref 20), some (.int (nI (Q i))), some (.int (nI ch)), none, none, none, none, none]) rfl ?_
  refine Vj_aloadn (q := 1) dX1_reachFrom_0 rfl rfl rfl ?_
  refine Vj_getR (q := 4) flX1_9 rfl rfl dX1_reachFrom_1 rfl ?_
  refine Vj_iloadn (q := 5) dX1_reachFrom_4 rfl rfl rfl ?_
  refine Vj_iconst (q := 6) (v := 1) dX1_reachFrom_5 rfl (by decide) ?_
  refine Vj_iadd (q := 7) dX1_reachFrom_6 rfl ?_
  rw [nI_1]
  refine Vj_callSi (q := 10) (qX9_atn rfl (by decide) (j := Q i + 1) (by omega)) (by decide) lkX1_44 stX9_at okX9_at dX1_reachFrom_7 rfl rfl (Nat.le_of_ble_eq_true rfl) ?_
  rw [e2]
  refine Vs_istore3 (q := 11) dX1_reachFrom_10 rfl (by decide) rfl ?_
  refine Vj_aloadn (q := 12) dX1_reachFrom_11 rfl rfl rfl ?_
  refine Vj_getR (q := 15) flX1_9 rfl rfl dX1_reachFrom_12 rfl ?_
  refine Vj_iloadn (q := 16) dX1_reachFrom_15 rfl rfl rfl ?_
  refine Vj_callSi (q := 19) (qX9_atn rfl (by decide) (j := Q i) (by omega)) (by decide) lkX1_44 stX9_at okX9_at dX1_reachFrom_16 rfl rfl (Nat.le_of_ble_eq_true rfl) ?_
  rw [e1]
  refine Vs_istore4 (q := 21) dX1_reachFrom_19 rfl (by decide) rfl ?_
  exact qX1_reachFrom_loop hr hch hRE hx (eS ρ (Q i + 1) - eS ρ (Q i)) (eS ρ (Q i)) σ D Q m k0 _ _ _ (by have := eS_mono (ρ := ρ) (show Q i ≤ Q i + 1 by omega); omega) (Nat.le_refl _) rfl hi hk hB hI (fun idx g1 g2 => absurd g1 (by omega)) Eqo.rf
/-- behind a search: distances, how many, the last one is the furthest -/
def SpR (ρ : Rm) (ch to : Nat) (σ0 σ' : Mem) : Prop := (∀ c, c < 4 ^ rN ρ → σ'.1 23 c = oI (dst (cNx ρ) (rB ρ) ch to c)) ∧ σ'.1 20 4 = nI (cntN (fun c => (dst (cNx ρ) (rB ρ) ch to c).isSome) (4 ^ rN ρ)) ∧
  (∃ z k, z < 4 ^ rN ρ ∧ σ'.1 24 (cntN (fun c => (dst (cNx ρ) (rB ρ) ch to c).isSome) (4 ^ rN ρ) - 1) = nI z ∧ dst (cNx ρ) (rB ρ) ch to z = some k ∧ ∀ c, c < 4 ^ rN ρ → ∀ k', dst (cNx ρ) (rB ρ) ch to c = some k' → k' ≤ k) ∧ Eqo [20, 23, 24] σ0 σ'
def SpP (ρ : Rm) (ch to : Nat) (σ0 : Mem) : Option Value → Mem → Prop := fun r σ' => r = some (.int (nI (cntN (fun c => (dst (cNx ρ) (rB ρ) ch to c).isSome) (4 ^ rN ρ)))) ∧ SpR ρ ch to σ0 σ'
theorem SpR.of {ρ : Rm} (hr : okR ρ) {ch to : Nat} {σ0 σ : Mem} {D : Nat → Option Nat} {Q : Nat → Nat} {m i : Nat} (hB : BS ρ D Q m σ) (hI : BI (cNx ρ) (rB ρ) ch to (4 ^ rN ρ) i D Q m) (h0 : 0 < m) (hi : m ≤ i) (hE : Eqo [20, 23, 24] σ0 σ) : m = cntN (fun c => (dst (cNx ρ) (rB ρ) ch to c).isSome) (4 ^ rN ρ) ∧ SpR ρ ch to σ0 σ := by
  have hd := (hI.done hi).dst (fun c hc b hb => cNx_lt hr hc hb) (hI.k_lt (p4_le hr.1)).2
  have hc : cntN (fun c => (dst (cNx ρ) (rB ρ) ch to c).isSome) (4 ^ rN ρ) = m := by
    rw [hI.1]
    exact cntN_congr _ (fun j hj => by rw [hd j hj])
  refine ⟨hc.symm, fun c hc => by rw [hd c hc]; exact hB.1 c hc, by rw [hc]; exact hB.2.2, ?_, hE⟩
  obtain ⟨z1, k, -, z3⟩ := hI.2.1 (m - 1) (by omega)
  refine ⟨Q (m - 1), k, z1, by rw [hc]; exact hB.2.1 _ (by omega), by rw [hd _ z1]; exact z3, fun c hc k' e => ?_⟩
  rw [hd c hc] at e
  obtain ⟨j, y1, y2⟩ := hI.2.2.1 c hc (by rw [e]; rfl)
  exact hI.2.2.2.1 j (m - 1) (by omega) (by omega) k' k (by rw [y2]; exact e) z3

set_option maxRecDepth 100000 in
theorem qX1_spread_loop {ρ : Rm} (hr : okR ρ) {ch to : Nat} (hch : ch < 64) {σ0 : Mem} (hRE : RE ρ σ0) : ∀ (n i : Nat) (σ : Mem) (D : Nat → Option Nat) (Q : Nat → Nat) (m : Nat), i + n = 256 → i ≤ m → 0 < m → BS ρ D Q m σ → BI (cNx ρ) (rB ρ) ch to (4 ^ rN ρ) i D Q m → Eqo [20, 23, 24] σ0 σ → Vj shX 2 mX1_spread (SpP ρ ch to σ0) 33 [some (.ref 20), some (.int (nI to)), some (.int (nI ch)), some (.int (nI i))] [] σ := by
  intro n
  induction n with
  | zero =>
    intro i σ D Q m hn him h0 hB hI hE
    obtain rfl : i = 256 := by omega
    have hm := (hI.k_lt (p4_le hr.1)).1
    obtain ⟨hc, hS⟩ := SpR.of hr hB hI h0 (by omega) hE
    refine Vj_iloadn (q := 34) dX1_spread_33 rfl rfl rfl ?_
    refine Vj_sipush (q := 37) (v := 256) dX1_spread_34 rfl (by decide) ?_
    refine Vj_icmp_ge (q := 40) (tgt := 67) dX1_spread_37 (by decide) rfl (fun _ => ?_) (fun hz => absurd (by decide) hz)
    refine Vj_aloadn (q := 68) dX1_spread_67 rfl rfl rfl ?_
    refine Vj_getI (q := 71) flX1_56 rfl rfl dX1_spread_68 rfl ?_
    rw [hB.2.2]
    exact Vr_iret rfl rfl dX1_spread_71 (⟨by rw [hc], hS⟩)
  | succ n ih =>
    intro i σ D Q m hn him h0 hB hI hE
    have hm := (hI.k_lt (p4_le hr.1)).1
    have hRE' := hRE.eqo hE rfl
    refine Vj_iloadn (q := 34) dX1_spread_33 rfl rfl rfl ?_
    refine Vj_sipush (q := 37) (v := 256) dX1_spread_34 rfl (by decide) ?_
    refine Vj_icmp_ge (q := 40) (tgt := 67) dX1_spread_37 (by decide) rfl (fun hz => absurd hz (nI_ge (show i < 256 by omega) (by decide))) (fun _ => ?_)
    refine Vj_iloadn (q := 41) dX1_spread_40 rfl rfl rfl ?_
    refine Vj_aloadn (q := 42) dX1_spread_41 rfl rfl rfl ?_
    refine Vj_getI (q := 45) flX1_56 rfl rfl dX1_spread_42 rfl ?_
    rw [hB.2.2]
    refine Vj_icmp_ge (q := 48) (tgt := 67) dX1_spread_45 (by decide) rfl (fun h45 => ?_) (fun h45 => ?_)
    ·
      have him2 : m ≤ i := (nI_leI (by omega) (by omega)).mp h45
      obtain ⟨hc, hS⟩ := SpR.of hr hB hI h0 him2 hE
      refine Vj_aloadn (q := 68) dX1_spread_67 rfl rfl rfl ?_
      refine Vj_getI (q := 71) flX1_56 rfl rfl dX1_spread_68 rfl ?_
      rw [hB.2.2]
      exact Vr_iret rfl rfl dX1_spread_71 (⟨by rw [hc], hS⟩)
    ·
      refine Vj_aloadn (q := 49) dX1_spread_48 rfl rfl rfl ?_
      refine Vj_aloadn (q := 50) dX1_spread_49 rfl rfl rfl ?_
      refine Vj_getR (q := 53) flX1_21 rfl rfl dX1_spread_50 rfl ?_
      refine Vj_iloadn (q := 54) dX1_spread_53 rfl rfl rfl ?_
      refine Vj_callSi (q := 57) (qX9_atn rfl (by decide) (j := i) (by omega)) (by decide) lkX1_44 stX9_at okX9_at dX1_spread_54 rfl rfl (Nat.le_of_ble_eq_true rfl) ?_
      have him2 : i < m := (nI_ltI (by omega) (by omega)).mp (Int32.not_le.mp h45)
      rw [hB.2.1 i him2]
      refine Vj_iloadn (q := 58) dX1_spread_57 rfl rfl rfl ?_
      refine Vj_callV (q := 61) (qX1_reachFrom hr hch hRE' him2 hB hI) (by decide) rfl rfl lkX1_59 viX1_reachFrom okX1_reachFrom dX1_spread_58 rfl rfl (Nat.le_of_ble_eq_true rfl) ?_
      rintro r σ1 ⟨rfl, ⟨D', Q', m', g1, g2, g3⟩, g4⟩
      show Vj shX 2 mX1_spread _ 61 _ [] σ1
      refine Vs_iinc3 (q := 64) (z := none) dX1_spread_61 rfl (by exact iinc_p _) (by decide) rfl ?_
      refine Vj_goto (q := 33) dX1_spread_64 (by decide) ?_
      rw [nI_1]
      exact ih (i + 1) σ1 D' Q' m' (by omega) g1 (by omega) g2 g3 ((hE.tr g4).in rfl)
set_option maxRecDepth 100000 in
theorem qX1_spread {ρ : Rm} (hr : okR ρ) {ch to : Nat} (hch : ch < 64) (hto : to < 4 ^ rN ρ) {σ : Mem} (hRE : RE ρ σ) : Ct shX 2 mX1_spread [.ref 20, .int (nI to), .int (nI ch)] σ (SpP ρ ch to σ) := by
  have hp4 := p4_le hr.1
  refine Ct.of (by decide) (Nat.le_of_ble_eq_true rfl) (l := [some (.ref 20), some (.int (nI to)), some (.int (nI ch)), none]) rfl ?_
  refine Vj_aloadn (q := 1) dX1_spread_0 rfl rfl rfl ?_
  refine Vj_getR (q := 4) flX1_18 rfl rfl dX1_spread_1 rfl ?_
  refine Vj_iconst (q := 5) (v := (-1)) dX1_spread_4 rfl (by decide) ?_
  refine Vj_callSv (q := 8) (qJ7_fill_53178 rfl (by decide) (-1)) (by decide) lkX1_24 stJ7_fill_53178 okJ7_fill_53178 dX1_spread_5 rfl rfl (Nat.le_of_ble_eq_true rfl) ?_
  refine Vj_aloadn (q := 9) dX1_spread_8 rfl rfl rfl ?_
  refine Vj_getR (q := 12) flX1_18 rfl rfl dX1_spread_9 rfl ?_
  refine Vj_iloadn (q := 13) dX1_spread_12 rfl rfl rfl ?_
  refine Vj_iconst (q := 14) (v := 0) dX1_spread_13 rfl (by decide) ?_
  refine Vj_callSv (q := 17) (qX9_putn rfl (by decide) (j := to) (by omega) (nI 0)) (by decide) lkX1_48 stX9_put okX9_put dX1_spread_14 rfl rfl (Nat.le_of_ble_eq_true rfl) ?_
  refine Vj_aloadn (q := 18) dX1_spread_17 rfl rfl rfl ?_
  refine Vj_getR (q := 21) flX1_21 rfl rfl dX1_spread_18 rfl ?_
  refine Vj_iconst (q := 22) (v := 0) dX1_spread_21 rfl (by decide) ?_
  refine Vj_iloadn (q := 23) dX1_spread_22 rfl rfl rfl ?_
  refine Vj_callSv (q := 26) (qX9_putn rfl (by decide) (j := 0) (by decide) (nI to)) (by decide) lkX1_48 stX9_put okX9_put dX1_spread_23 rfl rfl (Nat.le_of_ble_eq_true rfl) ?_
  refine Vj_aloadn (q := 27) dX1_spread_26 rfl rfl rfl ?_
  refine Vj_iconst (q := 28) (v := 1) dX1_spread_27 rfl (by decide) ?_
  refine Vj_putI (q := 31) flX1_56 rfl rfl dX1_spread_28 rfl ?_
  refine Vj_iconst (q := 32) (v := 0) dX1_spread_31 rfl (by decide) ?_
  refine Vs_istore3 (q := 33) dX1_spread_32 rfl (by decide) rfl ?_
  refine qX1_spread_loop hr hch hRE 256 0 _ (fun c => if c = to then some 0 else none) (fun _ => to) 1 (by omega) (by omega) (by omega) ⟨fun c hc => ?_, fun j hj => ?_, by simp [uI, upd, nI]⟩ (BI.start hto) ((((Eqo.rf.fill rfl).u rfl).u rfl).u rfl)
  · rw [uI_ne (by decide), uI_ne (by decide), uI_eq, upd, fillM_eq]
    by_cases e : c = to
    · simp only [e, if_pos]; rfl
    · simp only [if_neg e]; rw [if_pos (show c < 256 by omega)]; rfl
  · obtain rfl : j = 0 := by omega
    rw [uI_ne (by decide), uI_eq, upd, if_pos rfl]
set_option maxRecDepth 100000 in
theorem qX1_distanceOf {σ : Mem} {c : Nat} (hc : c < 256) : Ct shX 1 mX1_distanceOf [.ref 20, .int (nI c)] σ (Ri (σ.1 23 c) σ) := by
  refine Ct.of (by decide) (Nat.le_of_ble_eq_true rfl) (l := [some (.ref 20), some (.int (nI c))]) rfl ?_
  refine Vj_aloadn (q := 1) dX1_distanceOf_0 rfl rfl rfl ?_
  refine Vj_getR (q := 4) flX1_18 rfl rfl dX1_distanceOf_1 rfl ?_
  refine Vj_iloadn (q := 5) dX1_distanceOf_4 rfl rfl rfl ?_
  refine Vj_callSi (q := 8) (qX9_atn rfl (by decide) (j := c) hc) (by decide) lkX1_44 stX9_at okX9_at dX1_distanceOf_5 rfl rfl (Nat.le_of_ble_eq_true rfl) ?_
  exact Vr_iret rfl rfl dX1_distanceOf_8 (⟨rfl, rfl⟩)
set_option maxRecDepth 100000 in
theorem qX1_greatestDistance {σ : Mem} {m z : Nat} (hm : σ.1 20 4 = nI m) (h0 : 0 < m) (hm2 : m ≤ 256) (hz : σ.1 24 (m - 1) = nI z) (hz2 : z < 256) : Ct shX 1 mX1_greatestDistance [.ref 20] σ (Ri (σ.1 23 z) σ) := by
  refine Ct.of (by decide) (Nat.le_of_ble_eq_true rfl) (l := [some (.ref 20)]) rfl ?_
  refine Vj_aloadn (q := 1) dX1_greatestDistance_0 rfl rfl rfl ?_
  refine Vj_getR (q := 4) flX1_18 rfl rfl dX1_greatestDistance_1 rfl ?_
  refine Vj_aloadn (q := 5) dX1_greatestDistance_4 rfl rfl rfl ?_
  refine Vj_getR (q := 8) flX1_21 rfl rfl dX1_greatestDistance_5 rfl ?_
  refine Vj_aloadn (q := 9) dX1_greatestDistance_8 rfl rfl rfl ?_
  refine Vj_getI (q := 12) flX1_56 rfl rfl dX1_greatestDistance_9 rfl ?_
  rw [hm]
  refine Vj_iconst (q := 13) (v := 1) dX1_greatestDistance_12 rfl (by decide) ?_
  refine Vj_isub (q := 14) dX1_greatestDistance_13 rfl ?_
  rw [show (1 : Int32) = nI 1 from rfl, pk_sub h0]
  refine Vj_callSi (q := 17) (qX9_atn rfl (by decide) (j := m - 1) (by omega)) (by decide) lkX1_44 stX9_at okX9_at dX1_greatestDistance_14 rfl rfl (Nat.le_of_ble_eq_true rfl) ?_
  rw [hz]
  refine Vj_callSi (q := 20) (qX9_atn rfl (by decide) (j := z) hz2) (by decide) lkX1_44 stX9_at okX9_at dX1_greatestDistance_17 rfl rfl (Nat.le_of_ble_eq_true rfl) ?_
  exact Vr_iret rfl rfl dX1_greatestDistance_20 (⟨rfl, rfl⟩)
end
