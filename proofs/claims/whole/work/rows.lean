section
-- the tables' words (the skeleton's PART A)
/-- a private method of a class that the tables say can be made, by its rows of tables_1 -/
def lw_okq (q : MethodName × Nat) : Prop := (q.1.cls ≠ "java/lang/invoke/MethodHandle" ∧ q.1.cls ≠ "java/lang/invoke/VarHandle") ∧ Cond.instantiable q.1.cls q.2 ∈ tables_1 ∧ Cond.privateMethod q.1 ∈ tables_1 ∧ Cond.instanceMethod q.1 ∈ tables_1
theorem lw_p0 : lw_okq (⟨"ReplayDesk$History", "fits", "(III)Z"⟩, 7) := ⟨⟨by decide +kernel, by decide +kernel⟩, List.mem_of_getElem? (i := 119) (by decide +kernel), List.mem_of_getElem? (i := 300) (by decide +kernel), List.mem_of_getElem? (i := 301) (by decide +kernel)⟩
theorem lw_p1 : lw_okq (⟨"ReplayDesk$History", "isOpen", "(II)Z"⟩, 7) := ⟨⟨by decide +kernel, by decide +kernel⟩, List.mem_of_getElem? (i := 119) (by decide +kernel), List.mem_of_getElem? (i := 304) (by decide +kernel), List.mem_of_getElem? (i := 305) (by decide +kernel)⟩
theorem lw_p2 : lw_okq (⟨"ReplayDesk$History", "addSignal", "(I)V"⟩, 7) := ⟨⟨by decide +kernel, by decide +kernel⟩, List.mem_of_getElem? (i := 119) (by decide +kernel), List.mem_of_getElem? (i := 316) (by decide +kernel), List.mem_of_getElem? (i := 317) (by decide +kernel)⟩
theorem lw_p3 : lw_okq (⟨"ReplayDesk$Tokens", "addFrom", "(LReplayDesk$Tape;I)V"⟩, 5) := ⟨⟨by decide +kernel, by decide +kernel⟩, List.mem_of_getElem? (i := 46) (by decide +kernel), List.mem_of_getElem? (i := 381) (by decide +kernel), List.mem_of_getElem? (i := 382) (by decide +kernel)⟩
theorem lw_p4 : lw_okq (⟨"ReplayDesk$Tokens", "addName", "(LReplayDesk$Tape;I)V"⟩, 5) := ⟨⟨by decide +kernel, by decide +kernel⟩, List.mem_of_getElem? (i := 46) (by decide +kernel), List.mem_of_getElem? (i := 385) (by decide +kernel), List.mem_of_getElem? (i := 386) (by decide +kernel)⟩
theorem lw_p5 : lw_okq (⟨"ReplayDesk$Tokens", "add", "(III)V"⟩, 5) := ⟨⟨by decide +kernel, by decide +kernel⟩, List.mem_of_getElem? (i := 46) (by decide +kernel), List.mem_of_getElem? (i := 389) (by decide +kernel), List.mem_of_getElem? (i := 390) (by decide +kernel)⟩
theorem lw_p6 : lw_okq (⟨"ReplayDesk$Tokens", "addNumber", "(LReplayDesk$Tape;I)V"⟩, 5) := ⟨⟨by decide +kernel, by decide +kernel⟩, List.mem_of_getElem? (i := 46) (by decide +kernel), List.mem_of_getElem? (i := 456) (by decide +kernel), List.mem_of_getElem? (i := 457) (by decide +kernel)⟩
theorem lw_p7 : lw_okq (⟨"ReplayDesk$Reader", "readStatements", "(I)Z"⟩, 2) := ⟨⟨by decide +kernel, by decide +kernel⟩, List.mem_of_getElem? (i := 106) (by decide +kernel), List.mem_of_getElem? (i := 532) (by decide +kernel), List.mem_of_getElem? (i := 533) (by decide +kernel)⟩
theorem lw_p8 : lw_okq (⟨"ReplayDesk$Reader", "readStatement", "(I)Z"⟩, 2) := ⟨⟨by decide +kernel, by decide +kernel⟩, List.mem_of_getElem? (i := 106) (by decide +kernel), List.mem_of_getElem? (i := 543) (by decide +kernel), List.mem_of_getElem? (i := 544) (by decide +kernel)⟩
theorem lw_p9 : lw_okq (⟨"ReplayDesk$Reader", "readChoice", "(I)Z"⟩, 2) := ⟨⟨by decide +kernel, by decide +kernel⟩, List.mem_of_getElem? (i := 106) (by decide +kernel), List.mem_of_getElem? (i := 547) (by decide +kernel), List.mem_of_getElem? (i := 548) (by decide +kernel)⟩
theorem lw_p10 : lw_okq (⟨"ReplayDesk$Reader", "readX", "(I)Z"⟩, 2) := ⟨⟨by decide +kernel, by decide +kernel⟩, List.mem_of_getElem? (i := 106) (by decide +kernel), List.mem_of_getElem? (i := 559) (by decide +kernel), List.mem_of_getElem? (i := 560) (by decide +kernel)⟩
theorem lw_p11 : lw_okq (⟨"ReplayDesk$Reader", "readPart", "(I)Z"⟩, 2) := ⟨⟨by decide +kernel, by decide +kernel⟩, List.mem_of_getElem? (i := 106) (by decide +kernel), List.mem_of_getElem? (i := 563) (by decide +kernel), List.mem_of_getElem? (i := 564) (by decide +kernel)⟩
theorem lw_p12 : lw_okq (⟨"ReplayDesk$Reader", "readTerm", "(I)Z"⟩, 2) := ⟨⟨by decide +kernel, by decide +kernel⟩, List.mem_of_getElem? (i := 106) (by decide +kernel), List.mem_of_getElem? (i := 567) (by decide +kernel), List.mem_of_getElem? (i := 568) (by decide +kernel)⟩
theorem lw_p13 : lw_okq (⟨"ReplayDesk$Reader", "readFactor", "(I)Z"⟩, 2) := ⟨⟨by decide +kernel, by decide +kernel⟩, List.mem_of_getElem? (i := 106) (by decide +kernel), List.mem_of_getElem? (i := 571) (by decide +kernel), List.mem_of_getElem? (i := 572) (by decide +kernel)⟩
theorem lw_p14 : lw_okq (⟨"ReplayDesk$Program", "holds", "(I)Z"⟩, 10) := ⟨⟨by decide +kernel, by decide +kernel⟩, List.mem_of_getElem? (i := 69) (by decide +kernel), List.mem_of_getElem? (i := 598) (by decide +kernel), List.mem_of_getElem? (i := 599) (by decide +kernel)⟩
theorem lw_p15 : lw_okq (⟨"ReplayDesk$Reader", "readLoop", "(I)Z"⟩, 2) := ⟨⟨by decide +kernel, by decide +kernel⟩, List.mem_of_getElem? (i := 106) (by decide +kernel), List.mem_of_getElem? (i := 607) (by decide +kernel), List.mem_of_getElem? (i := 608) (by decide +kernel)⟩
def lw_privs_1 : List (MethodName × Nat) := [(⟨"ReplayDesk$History", "fits", "(III)Z"⟩, 7), (⟨"ReplayDesk$History", "isOpen", "(II)Z"⟩, 7), (⟨"ReplayDesk$History", "addSignal", "(I)V"⟩, 7), (⟨"ReplayDesk$Tokens", "addFrom", "(LReplayDesk$Tape;I)V"⟩, 5), (⟨"ReplayDesk$Tokens", "addName", "(LReplayDesk$Tape;I)V"⟩, 5), (⟨"ReplayDesk$Tokens", "add", "(III)V"⟩, 5), (⟨"ReplayDesk$Tokens", "addNumber", "(LReplayDesk$Tape;I)V"⟩, 5), (⟨"ReplayDesk$Reader", "readStatements", "(I)Z"⟩, 2), (⟨"ReplayDesk$Reader", "readStatement", "(I)Z"⟩, 2), (⟨"ReplayDesk$Reader", "readChoice", "(I)Z"⟩, 2), (⟨"ReplayDesk$Reader", "readX", "(I)Z"⟩, 2), (⟨"ReplayDesk$Reader", "readPart", "(I)Z"⟩, 2), (⟨"ReplayDesk$Reader", "readTerm", "(I)Z"⟩, 2), (⟨"ReplayDesk$Reader", "readFactor", "(I)Z"⟩, 2), (⟨"ReplayDesk$Program", "holds", "(I)Z"⟩, 10), (⟨"ReplayDesk$Reader", "readLoop", "(I)Z"⟩, 2)]
theorem lw_r1 : ∀ q ∈ lw_privs_1, lw_okq q := List.forall_mem_cons.mpr ⟨lw_p0, List.forall_mem_cons.mpr ⟨lw_p1, List.forall_mem_cons.mpr ⟨lw_p2, List.forall_mem_cons.mpr ⟨lw_p3, List.forall_mem_cons.mpr ⟨lw_p4, List.forall_mem_cons.mpr ⟨lw_p5, List.forall_mem_cons.mpr ⟨lw_p6, List.forall_mem_cons.mpr ⟨lw_p7, List.forall_mem_cons.mpr ⟨lw_p8, List.forall_mem_cons.mpr ⟨lw_p9, List.forall_mem_cons.mpr ⟨lw_p10, List.forall_mem_cons.mpr ⟨lw_p11, List.forall_mem_cons.mpr ⟨lw_p12, List.forall_mem_cons.mpr ⟨lw_p13, List.forall_mem_cons.mpr ⟨lw_p14, List.forall_mem_cons.mpr ⟨lw_p15, fun _ h => absurd h List.not_mem_nil⟩⟩⟩⟩⟩⟩⟩⟩⟩⟩⟩⟩⟩⟩⟩⟩
theorem lw_p16 : lw_okq (⟨"ReplayDesk$Reader", "readAssignment", "(I)Z"⟩, 2) := ⟨⟨by decide +kernel, by decide +kernel⟩, List.mem_of_getElem? (i := 106) (by decide +kernel), List.mem_of_getElem? (i := 611) (by decide +kernel), List.mem_of_getElem? (i := 612) (by decide +kernel)⟩
theorem lw_p17 : lw_okq (⟨"ReplayDesk$Reader", "readRest", "(III)Z"⟩, 2) := ⟨⟨by decide +kernel, by decide +kernel⟩, List.mem_of_getElem? (i := 106) (by decide +kernel), List.mem_of_getElem? (i := 619) (by decide +kernel), List.mem_of_getElem? (i := 620) (by decide +kernel)⟩
theorem lw_p18 : lw_okq (⟨"ReplayDesk$Reader", "readFirst", "(II)Z"⟩, 2) := ⟨⟨by decide +kernel, by decide +kernel⟩, List.mem_of_getElem? (i := 106) (by decide +kernel), List.mem_of_getElem? (i := 623) (by decide +kernel), List.mem_of_getElem? (i := 624) (by decide +kernel)⟩
theorem lw_p19 : lw_okq (⟨"ReplayDesk$Reader", "readSecond", "(I)Z"⟩, 2) := ⟨⟨by decide +kernel, by decide +kernel⟩, List.mem_of_getElem? (i := 106) (by decide +kernel), List.mem_of_getElem? (i := 627) (by decide +kernel), List.mem_of_getElem? (i := 628) (by decide +kernel)⟩
theorem lw_p20 : lw_okq (⟨"ReplayDesk$Reader", "readStop", "(I)Z"⟩, 2) := ⟨⟨by decide +kernel, by decide +kernel⟩, List.mem_of_getElem? (i := 106) (by decide +kernel), List.mem_of_getElem? (i := 640) (by decide +kernel), List.mem_of_getElem? (i := 641) (by decide +kernel)⟩
theorem lw_p21 : lw_okq (⟨"java/lang/Throwable", "fillInStackTrace", "(I)Ljava/lang/Throwable;"⟩, 6) := ⟨⟨by decide +kernel, by decide +kernel⟩, List.mem_of_getElem? (i := 686) (by decide +kernel), List.mem_of_getElem? (i := 684) (by decide +kernel), List.mem_of_getElem? (i := 685) (by decide +kernel)⟩
theorem lw_p22 : lw_okq (⟨"ReplayDesk$Runner", "runDecision", "(IIZ)V"⟩, 13) := ⟨⟨by decide +kernel, by decide +kernel⟩, List.mem_of_getElem? (i := 180) (by decide +kernel), List.mem_of_getElem? (i := 745) (by decide +kernel), List.mem_of_getElem? (i := 746) (by decide +kernel)⟩
theorem lw_p23 : lw_okq (⟨"ReplayDesk$Runner", "turn", "(II)V"⟩, 13) := ⟨⟨by decide +kernel, by decide +kernel⟩, List.mem_of_getElem? (i := 180) (by decide +kernel), List.mem_of_getElem? (i := 757) (by decide +kernel), List.mem_of_getElem? (i := 758) (by decide +kernel)⟩
theorem lw_p24 : lw_okq (⟨"ReplayDesk$Runner", "workOut", "()I"⟩, 13) := ⟨⟨by decide +kernel, by decide +kernel⟩, List.mem_of_getElem? (i := 180) (by decide +kernel), List.mem_of_getElem? (i := 761) (by decide +kernel), List.mem_of_getElem? (i := 762) (by decide +kernel)⟩
theorem lw_p25 : lw_okq (⟨"ReplayDesk$Runner", "work", "(II)V"⟩, 13) := ⟨⟨by decide +kernel, by decide +kernel⟩, List.mem_of_getElem? (i := 180) (by decide +kernel), List.mem_of_getElem? (i := 781) (by decide +kernel), List.mem_of_getElem? (i := 782) (by decide +kernel)⟩
theorem lw_p26 : lw_okq (⟨"ReplayDesk$Runner", "push", "(I)V"⟩, 13) := ⟨⟨by decide +kernel, by decide +kernel⟩, List.mem_of_getElem? (i := 180) (by decide +kernel), List.mem_of_getElem? (i := 785) (by decide +kernel), List.mem_of_getElem? (i := 786) (by decide +kernel)⟩
theorem lw_p27 : lw_okq (⟨"ReplayDesk$Runner", "pop", "()I"⟩, 13) := ⟨⟨by decide +kernel, by decide +kernel⟩, List.mem_of_getElem? (i := 180) (by decide +kernel), List.mem_of_getElem? (i := 793) (by decide +kernel), List.mem_of_getElem? (i := 794) (by decide +kernel)⟩
theorem lw_p28 : lw_okq (⟨"ReplayDesk$Runner", "finish", "(I)V"⟩, 13) := ⟨⟨by decide +kernel, by decide +kernel⟩, List.mem_of_getElem? (i := 180) (by decide +kernel), List.mem_of_getElem? (i := 800) (by decide +kernel), List.mem_of_getElem? (i := 801) (by decide +kernel)⟩
theorem lw_p29 : lw_okq (⟨"ReplayDesk$Runner", "order", "(III)V"⟩, 13) := ⟨⟨by decide +kernel, by decide +kernel⟩, List.mem_of_getElem? (i := 180) (by decide +kernel), List.mem_of_getElem? (i := 812) (by decide +kernel), List.mem_of_getElem? (i := 813) (by decide +kernel)⟩
theorem lw_p30 : lw_okq (⟨"ReplayDesk$Runner", "want", "(III)Z"⟩, 13) := ⟨⟨by decide +kernel, by decide +kernel⟩, List.mem_of_getElem? (i := 180) (by decide +kernel), List.mem_of_getElem? (i := 816) (by decide +kernel), List.mem_of_getElem? (i := 817) (by decide +kernel)⟩
theorem lw_p31 : lw_okq (⟨"ReplayDesk$Runner", "differ", "()V"⟩, 13) := ⟨⟨by decide +kernel, by decide +kernel⟩, List.mem_of_getElem? (i := 180) (by decide +kernel), List.mem_of_getElem? (i := 825) (by decide +kernel), List.mem_of_getElem? (i := 826) (by decide +kernel)⟩
def lw_privs_2 : List (MethodName × Nat) := [(⟨"ReplayDesk$Reader", "readAssignment", "(I)Z"⟩, 2), (⟨"ReplayDesk$Reader", "readRest", "(III)Z"⟩, 2), (⟨"ReplayDesk$Reader", "readFirst", "(II)Z"⟩, 2), (⟨"ReplayDesk$Reader", "readSecond", "(I)Z"⟩, 2), (⟨"ReplayDesk$Reader", "readStop", "(I)Z"⟩, 2), (⟨"java/lang/Throwable", "fillInStackTrace", "(I)Ljava/lang/Throwable;"⟩, 6), (⟨"ReplayDesk$Runner", "runDecision", "(IIZ)V"⟩, 13), (⟨"ReplayDesk$Runner", "turn", "(II)V"⟩, 13), (⟨"ReplayDesk$Runner", "workOut", "()I"⟩, 13), (⟨"ReplayDesk$Runner", "work", "(II)V"⟩, 13), (⟨"ReplayDesk$Runner", "push", "(I)V"⟩, 13), (⟨"ReplayDesk$Runner", "pop", "()I"⟩, 13), (⟨"ReplayDesk$Runner", "finish", "(I)V"⟩, 13), (⟨"ReplayDesk$Runner", "order", "(III)V"⟩, 13), (⟨"ReplayDesk$Runner", "want", "(III)Z"⟩, 13), (⟨"ReplayDesk$Runner", "differ", "()V"⟩, 13)]
theorem lw_r2 : ∀ q ∈ lw_privs_2, lw_okq q := List.forall_mem_cons.mpr ⟨lw_p16, List.forall_mem_cons.mpr ⟨lw_p17, List.forall_mem_cons.mpr ⟨lw_p18, List.forall_mem_cons.mpr ⟨lw_p19, List.forall_mem_cons.mpr ⟨lw_p20, List.forall_mem_cons.mpr ⟨lw_p21, List.forall_mem_cons.mpr ⟨lw_p22, List.forall_mem_cons.mpr ⟨lw_p23, List.forall_mem_cons.mpr ⟨lw_p24, List.forall_mem_cons.mpr ⟨lw_p25, List.forall_mem_cons.mpr ⟨lw_p26, List.forall_mem_cons.mpr ⟨lw_p27, List.forall_mem_cons.mpr ⟨lw_p28, List.forall_mem_cons.mpr ⟨lw_p29, List.forall_mem_cons.mpr ⟨lw_p30, List.forall_mem_cons.mpr ⟨lw_p31, fun _ h => absurd h List.not_mem_nil⟩⟩⟩⟩⟩⟩⟩⟩⟩⟩⟩⟩⟩⟩⟩⟩
theorem lw_p32 : lw_okq (⟨"ReplayDesk$Runner", "waitFor", "(I)V"⟩, 13) := ⟨⟨by decide +kernel, by decide +kernel⟩, List.mem_of_getElem? (i := 180) (by decide +kernel), List.mem_of_getElem? (i := 829) (by decide +kernel), List.mem_of_getElem? (i := 830) (by decide +kernel)⟩
theorem lw_p33 : lw_okq (⟨"ReplayDesk$Runner", "endOf", "(I)I"⟩, 13) := ⟨⟨by decide +kernel, by decide +kernel⟩, List.mem_of_getElem? (i := 180) (by decide +kernel), List.mem_of_getElem? (i := 833) (by decide +kernel), List.mem_of_getElem? (i := 834) (by decide +kernel)⟩
theorem lw_p34 : lw_okq (⟨"ReplayDesk$Runner", "waitForAny", "(II)V"⟩, 13) := ⟨⟨by decide +kernel, by decide +kernel⟩, List.mem_of_getElem? (i := 180) (by decide +kernel), List.mem_of_getElem? (i := 849) (by decide +kernel), List.mem_of_getElem? (i := 850) (by decide +kernel)⟩
theorem lw_p35 : lw_okq (⟨"ReplayDesk$Runner", "takeSignal", "()V"⟩, 13) := ⟨⟨by decide +kernel, by decide +kernel⟩, List.mem_of_getElem? (i := 180) (by decide +kernel), List.mem_of_getElem? (i := 853) (by decide +kernel), List.mem_of_getElem? (i := 854) (by decide +kernel)⟩
theorem lw_p36 : lw_okq (⟨"ReplayDesk$Runner", "patch", "(I)V"⟩, 13) := ⟨⟨by decide +kernel, by decide +kernel⟩, List.mem_of_getElem? (i := 180) (by decide +kernel), List.mem_of_getElem? (i := 861) (by decide +kernel), List.mem_of_getElem? (i := 862) (by decide +kernel)⟩
theorem lw_p37 : lw_okq (⟨"ReplayDesk$Runner", "stop", "(I)V"⟩, 13) := ⟨⟨by decide +kernel, by decide +kernel⟩, List.mem_of_getElem? (i := 180) (by decide +kernel), List.mem_of_getElem? (i := 865) (by decide +kernel), List.mem_of_getElem? (i := 866) (by decide +kernel)⟩
theorem lw_p38 : lw_okq (⟨"ReplayDeskModel", "tokenize", "()V"⟩, 45) := ⟨⟨by decide +kernel, by decide +kernel⟩, List.mem_of_getElem? (i := 940) (by decide +kernel), List.mem_of_getElem? (i := 1095) (by decide +kernel), List.mem_of_getElem? (i := 1096) (by decide +kernel)⟩
theorem lw_p39 : lw_okq (⟨"ReplayDeskModel", "see", "(I)I"⟩, 45) := ⟨⟨by decide +kernel, by decide +kernel⟩, List.mem_of_getElem? (i := 940) (by decide +kernel), List.mem_of_getElem? (i := 1102) (by decide +kernel), List.mem_of_getElem? (i := 1103) (by decide +kernel)⟩
theorem lw_p40 : lw_okq (⟨"ReplayDeskModel", "token", "(III)V"⟩, 45) := ⟨⟨by decide +kernel, by decide +kernel⟩, List.mem_of_getElem? (i := 940) (by decide +kernel), List.mem_of_getElem? (i := 1106) (by decide +kernel), List.mem_of_getElem? (i := 1107) (by decide +kernel)⟩
theorem lw_p41 : lw_okq (⟨"ReplayDeskModel", "nameOf", "(II)I"⟩, 45) := ⟨⟨by decide +kernel, by decide +kernel⟩, List.mem_of_getElem? (i := 940) (by decide +kernel), List.mem_of_getElem? (i := 1113) (by decide +kernel), List.mem_of_getElem? (i := 1114) (by decide +kernel)⟩
theorem lw_p42 : lw_okq (⟨"ReplayDeskModel", "readList", "()Z"⟩, 45) := ⟨⟨by decide +kernel, by decide +kernel⟩, List.mem_of_getElem? (i := 940) (by decide +kernel), List.mem_of_getElem? (i := 1123) (by decide +kernel), List.mem_of_getElem? (i := 1124) (by decide +kernel)⟩
theorem lw_p43 : lw_okq (⟨"ReplayDeskModel", "is", "(I)Z"⟩, 45) := ⟨⟨by decide +kernel, by decide +kernel⟩, List.mem_of_getElem? (i := 940) (by decide +kernel), List.mem_of_getElem? (i := 1127) (by decide +kernel), List.mem_of_getElem? (i := 1128) (by decide +kernel)⟩
theorem lw_p44 : lw_okq (⟨"ReplayDeskModel", "readStatement", "()Z"⟩, 45) := ⟨⟨by decide +kernel, by decide +kernel⟩, List.mem_of_getElem? (i := 940) (by decide +kernel), List.mem_of_getElem? (i := 1131) (by decide +kernel), List.mem_of_getElem? (i := 1132) (by decide +kernel)⟩
theorem lw_p45 : lw_okq (⟨"ReplayDeskModel", "readTurn", "(Z)Z"⟩, 45) := ⟨⟨by decide +kernel, by decide +kernel⟩, List.mem_of_getElem? (i := 940) (by decide +kernel), List.mem_of_getElem? (i := 1135) (by decide +kernel), List.mem_of_getElem? (i := 1136) (by decide +kernel)⟩
theorem lw_p46 : lw_okq (⟨"ReplayDeskModel", "deeper", "()Z"⟩, 45) := ⟨⟨by decide +kernel, by decide +kernel⟩, List.mem_of_getElem? (i := 940) (by decide +kernel), List.mem_of_getElem? (i := 1139) (by decide +kernel), List.mem_of_getElem? (i := 1140) (by decide +kernel)⟩
theorem lw_p47 : lw_okq (⟨"ReplayDeskModel", "refuse", "()Z"⟩, 45) := ⟨⟨by decide +kernel, by decide +kernel⟩, List.mem_of_getElem? (i := 940) (by decide +kernel), List.mem_of_getElem? (i := 1143) (by decide +kernel), List.mem_of_getElem? (i := 1144) (by decide +kernel)⟩
def lw_privs_3 : List (MethodName × Nat) := [(⟨"ReplayDesk$Runner", "waitFor", "(I)V"⟩, 13), (⟨"ReplayDesk$Runner", "endOf", "(I)I"⟩, 13), (⟨"ReplayDesk$Runner", "waitForAny", "(II)V"⟩, 13), (⟨"ReplayDesk$Runner", "takeSignal", "()V"⟩, 13), (⟨"ReplayDesk$Runner", "patch", "(I)V"⟩, 13), (⟨"ReplayDesk$Runner", "stop", "(I)V"⟩, 13), (⟨"ReplayDeskModel", "tokenize", "()V"⟩, 45), (⟨"ReplayDeskModel", "see", "(I)I"⟩, 45), (⟨"ReplayDeskModel", "token", "(III)V"⟩, 45), (⟨"ReplayDeskModel", "nameOf", "(II)I"⟩, 45), (⟨"ReplayDeskModel", "readList", "()Z"⟩, 45), (⟨"ReplayDeskModel", "is", "(I)Z"⟩, 45), (⟨"ReplayDeskModel", "readStatement", "()Z"⟩, 45), (⟨"ReplayDeskModel", "readTurn", "(Z)Z"⟩, 45), (⟨"ReplayDeskModel", "deeper", "()Z"⟩, 45), (⟨"ReplayDeskModel", "refuse", "()Z"⟩, 45)]
theorem lw_r3 : ∀ q ∈ lw_privs_3, lw_okq q := List.forall_mem_cons.mpr ⟨lw_p32, List.forall_mem_cons.mpr ⟨lw_p33, List.forall_mem_cons.mpr ⟨lw_p34, List.forall_mem_cons.mpr ⟨lw_p35, List.forall_mem_cons.mpr ⟨lw_p36, List.forall_mem_cons.mpr ⟨lw_p37, List.forall_mem_cons.mpr ⟨lw_p38, List.forall_mem_cons.mpr ⟨lw_p39, List.forall_mem_cons.mpr ⟨lw_p40, List.forall_mem_cons.mpr ⟨lw_p41, List.forall_mem_cons.mpr ⟨lw_p42, List.forall_mem_cons.mpr ⟨lw_p43, List.forall_mem_cons.mpr ⟨lw_p44, List.forall_mem_cons.mpr ⟨lw_p45, List.forall_mem_cons.mpr ⟨lw_p46, List.forall_mem_cons.mpr ⟨lw_p47, fun _ h => absurd h List.not_mem_nil⟩⟩⟩⟩⟩⟩⟩⟩⟩⟩⟩⟩⟩⟩⟩⟩
theorem lw_p48 : lw_okq (⟨"ReplayDeskModel", "readX", "()Z"⟩, 45) := ⟨⟨by decide +kernel, by decide +kernel⟩, List.mem_of_getElem? (i := 940) (by decide +kernel), List.mem_of_getElem? (i := 1147) (by decide +kernel), List.mem_of_getElem? (i := 1148) (by decide +kernel)⟩
theorem lw_p49 : lw_okq (⟨"ReplayDeskModel", "readSum", "()Z"⟩, 45) := ⟨⟨by decide +kernel, by decide +kernel⟩, List.mem_of_getElem? (i := 940) (by decide +kernel), List.mem_of_getElem? (i := 1151) (by decide +kernel), List.mem_of_getElem? (i := 1152) (by decide +kernel)⟩
theorem lw_p50 : lw_okq (⟨"ReplayDeskModel", "readTerm", "()Z"⟩, 45) := ⟨⟨by decide +kernel, by decide +kernel⟩, List.mem_of_getElem? (i := 940) (by decide +kernel), List.mem_of_getElem? (i := 1155) (by decide +kernel), List.mem_of_getElem? (i := 1156) (by decide +kernel)⟩
theorem lw_p51 : lw_okq (⟨"ReplayDeskModel", "readFactor", "()Z"⟩, 45) := ⟨⟨by decide +kernel, by decide +kernel⟩, List.mem_of_getElem? (i := 940) (by decide +kernel), List.mem_of_getElem? (i := 1159) (by decide +kernel), List.mem_of_getElem? (i := 1160) (by decide +kernel)⟩
theorem lw_p52 : lw_okq (⟨"ReplayDeskModel", "node", "(IIII)I"⟩, 45) := ⟨⟨by decide +kernel, by decide +kernel⟩, List.mem_of_getElem? (i := 940) (by decide +kernel), List.mem_of_getElem? (i := 1163) (by decide +kernel), List.mem_of_getElem? (i := 1164) (by decide +kernel)⟩
theorem lw_p53 : lw_okq (⟨"ReplayDeskModel", "want", "(I)Z"⟩, 45) := ⟨⟨by decide +kernel, by decide +kernel⟩, List.mem_of_getElem? (i := 940) (by decide +kernel), List.mem_of_getElem? (i := 1167) (by decide +kernel), List.mem_of_getElem? (i := 1168) (by decide +kernel)⟩
theorem lw_p54 : lw_okq (⟨"ReplayDeskModel", "takes", "(I)Z"⟩, 45) := ⟨⟨by decide +kernel, by decide +kernel⟩, List.mem_of_getElem? (i := 940) (by decide +kernel), List.mem_of_getElem? (i := 1171) (by decide +kernel), List.mem_of_getElem? (i := 1172) (by decide +kernel)⟩
theorem lw_p55 : lw_okq (⟨"ReplayDeskModel", "readRegister", "()Z"⟩, 45) := ⟨⟨by decide +kernel, by decide +kernel⟩, List.mem_of_getElem? (i := 940) (by decide +kernel), List.mem_of_getElem? (i := 1175) (by decide +kernel), List.mem_of_getElem? (i := 1176) (by decide +kernel)⟩
theorem lw_p56 : lw_okq (⟨"ReplayDeskModel", "readNumber", "()Z"⟩, 45) := ⟨⟨by decide +kernel, by decide +kernel⟩, List.mem_of_getElem? (i := 940) (by decide +kernel), List.mem_of_getElem? (i := 1179) (by decide +kernel), List.mem_of_getElem? (i := 1180) (by decide +kernel)⟩
theorem lw_p57 : lw_okq (⟨"ReplayDeskModel", "raise", "(I)I"⟩, 45) := ⟨⟨by decide +kernel, by decide +kernel⟩, List.mem_of_getElem? (i := 940) (by decide +kernel), List.mem_of_getElem? (i := 1183) (by decide +kernel), List.mem_of_getElem? (i := 1184) (by decide +kernel)⟩
theorem lw_p58 : lw_okq (⟨"ReplayDeskModel", "run", "()V"⟩, 45) := ⟨⟨by decide +kernel, by decide +kernel⟩, List.mem_of_getElem? (i := 940) (by decide +kernel), List.mem_of_getElem? (i := 1195) (by decide +kernel), List.mem_of_getElem? (i := 1196) (by decide +kernel)⟩
theorem lw_p59 : lw_okq (⟨"ReplayDeskModel", "begins", "()V"⟩, 45) := ⟨⟨by decide +kernel, by decide +kernel⟩, List.mem_of_getElem? (i := 940) (by decide +kernel), List.mem_of_getElem? (i := 1199) (by decide +kernel), List.mem_of_getElem? (i := 1200) (by decide +kernel)⟩
theorem lw_p60 : lw_okq (⟨"ReplayDeskModel", "append", "(III)V"⟩, 45) := ⟨⟨by decide +kernel, by decide +kernel⟩, List.mem_of_getElem? (i := 940) (by decide +kernel), List.mem_of_getElem? (i := 1203) (by decide +kernel), List.mem_of_getElem? (i := 1204) (by decide +kernel)⟩
theorem lw_p61 : lw_okq (⟨"ReplayDeskModel", "list", "(I)V"⟩, 45) := ⟨⟨by decide +kernel, by decide +kernel⟩, List.mem_of_getElem? (i := 940) (by decide +kernel), List.mem_of_getElem? (i := 1207) (by decide +kernel), List.mem_of_getElem? (i := 1208) (by decide +kernel)⟩
theorem lw_p62 : lw_okq (⟨"ReplayDeskModel", "turn", "(I)V"⟩, 45) := ⟨⟨by decide +kernel, by decide +kernel⟩, List.mem_of_getElem? (i := 940) (by decide +kernel), List.mem_of_getElem? (i := 1211) (by decide +kernel), List.mem_of_getElem? (i := 1212) (by decide +kernel)⟩
theorem lw_p63 : lw_okq (⟨"ReplayDeskModel", "step", "()Z"⟩, 45) := ⟨⟨by decide +kernel, by decide +kernel⟩, List.mem_of_getElem? (i := 940) (by decide +kernel), List.mem_of_getElem? (i := 1215) (by decide +kernel), List.mem_of_getElem? (i := 1216) (by decide +kernel)⟩
def lw_privs_4 : List (MethodName × Nat) := [(⟨"ReplayDeskModel", "readX", "()Z"⟩, 45), (⟨"ReplayDeskModel", "readSum", "()Z"⟩, 45), (⟨"ReplayDeskModel", "readTerm", "()Z"⟩, 45), (⟨"ReplayDeskModel", "readFactor", "()Z"⟩, 45), (⟨"ReplayDeskModel", "node", "(IIII)I"⟩, 45), (⟨"ReplayDeskModel", "want", "(I)Z"⟩, 45), (⟨"ReplayDeskModel", "takes", "(I)Z"⟩, 45), (⟨"ReplayDeskModel", "readRegister", "()Z"⟩, 45), (⟨"ReplayDeskModel", "readNumber", "()Z"⟩, 45), (⟨"ReplayDeskModel", "raise", "(I)I"⟩, 45), (⟨"ReplayDeskModel", "run", "()V"⟩, 45), (⟨"ReplayDeskModel", "begins", "()V"⟩, 45), (⟨"ReplayDeskModel", "append", "(III)V"⟩, 45), (⟨"ReplayDeskModel", "list", "(I)V"⟩, 45), (⟨"ReplayDeskModel", "turn", "(I)V"⟩, 45), (⟨"ReplayDeskModel", "step", "()Z"⟩, 45)]
theorem lw_r4 : ∀ q ∈ lw_privs_4, lw_okq q := List.forall_mem_cons.mpr ⟨lw_p48, List.forall_mem_cons.mpr ⟨lw_p49, List.forall_mem_cons.mpr ⟨lw_p50, List.forall_mem_cons.mpr ⟨lw_p51, List.forall_mem_cons.mpr ⟨lw_p52, List.forall_mem_cons.mpr ⟨lw_p53, List.forall_mem_cons.mpr ⟨lw_p54, List.forall_mem_cons.mpr ⟨lw_p55, List.forall_mem_cons.mpr ⟨lw_p56, List.forall_mem_cons.mpr ⟨lw_p57, List.forall_mem_cons.mpr ⟨lw_p58, List.forall_mem_cons.mpr ⟨lw_p59, List.forall_mem_cons.mpr ⟨lw_p60, List.forall_mem_cons.mpr ⟨lw_p61, List.forall_mem_cons.mpr ⟨lw_p62, List.forall_mem_cons.mpr ⟨lw_p63, fun _ h => absurd h List.not_mem_nil⟩⟩⟩⟩⟩⟩⟩⟩⟩⟩⟩⟩⟩⟩⟩⟩
theorem lw_p64 : lw_okq (⟨"ReplayDeskModel", "work", "(I)I"⟩, 45) := ⟨⟨by decide +kernel, by decide +kernel⟩, List.mem_of_getElem? (i := 940) (by decide +kernel), List.mem_of_getElem? (i := 1219) (by decide +kernel), List.mem_of_getElem? (i := 1220) (by decide +kernel)⟩
theorem lw_p65 : lw_okq (⟨"ReplayDeskModel", "statement", "(I)V"⟩, 45) := ⟨⟨by decide +kernel, by decide +kernel⟩, List.mem_of_getElem? (i := 940) (by decide +kernel), List.mem_of_getElem? (i := 1223) (by decide +kernel), List.mem_of_getElem? (i := 1224) (by decide +kernel)⟩
theorem lw_p66 : lw_okq (⟨"ReplayDeskModel", "stop", "(I)V"⟩, 45) := ⟨⟨by decide +kernel, by decide +kernel⟩, List.mem_of_getElem? (i := 940) (by decide +kernel), List.mem_of_getElem? (i := 1227) (by decide +kernel), List.mem_of_getElem? (i := 1228) (by decide +kernel)⟩
theorem lw_p67 : lw_okq (⟨"ReplayDeskModel", "command", "(III)I"⟩, 45) := ⟨⟨by decide +kernel, by decide +kernel⟩, List.mem_of_getElem? (i := 940) (by decide +kernel), List.mem_of_getElem? (i := 1231) (by decide +kernel), List.mem_of_getElem? (i := 1232) (by decide +kernel)⟩
theorem lw_p68 : lw_okq (⟨"ReplayDeskModel", "isCommand", "(I)Z"⟩, 45) := ⟨⟨by decide +kernel, by decide +kernel⟩, List.mem_of_getElem? (i := 940) (by decide +kernel), List.mem_of_getElem? (i := 1235) (by decide +kernel), List.mem_of_getElem? (i := 1236) (by decide +kernel)⟩
theorem lw_p69 : lw_okq (⟨"ReplayDeskModel", "goOn", "()V"⟩, 45) := ⟨⟨by decide +kernel, by decide +kernel⟩, List.mem_of_getElem? (i := 940) (by decide +kernel), List.mem_of_getElem? (i := 1239) (by decide +kernel), List.mem_of_getElem? (i := 1240) (by decide +kernel)⟩
theorem lw_p70 : lw_okq (⟨"ReplayDeskModel", "patch", "(I)V"⟩, 45) := ⟨⟨by decide +kernel, by decide +kernel⟩, List.mem_of_getElem? (i := 940) (by decide +kernel), List.mem_of_getElem? (i := 1243) (by decide +kernel), List.mem_of_getElem? (i := 1244) (by decide +kernel)⟩
theorem lw_p71 : lw_okq (⟨"ReplayDeskModel", "isDone", "(I)Z"⟩, 45) := ⟨⟨by decide +kernel, by decide +kernel⟩, List.mem_of_getElem? (i := 940) (by decide +kernel), List.mem_of_getElem? (i := 1247) (by decide +kernel), List.mem_of_getElem? (i := 1248) (by decide +kernel)⟩
theorem lw_p72 : lw_okq (⟨"ReplayDeskModel", "waits", "(I)V"⟩, 45) := ⟨⟨by decide +kernel, by decide +kernel⟩, List.mem_of_getElem? (i := 940) (by decide +kernel), List.mem_of_getElem? (i := 1251) (by decide +kernel), List.mem_of_getElem? (i := 1252) (by decide +kernel)⟩
theorem lw_p73 : lw_okq (⟨"ReplayDeskModel", "isReady", "(I)Z"⟩, 45) := ⟨⟨by decide +kernel, by decide +kernel⟩, List.mem_of_getElem? (i := 940) (by decide +kernel), List.mem_of_getElem? (i := 1255) (by decide +kernel), List.mem_of_getElem? (i := 1256) (by decide +kernel)⟩
theorem lw_p74 : lw_okq (⟨"ReplayDeskModel", "hasSignal", "()Z"⟩, 45) := ⟨⟨by decide +kernel, by decide +kernel⟩, List.mem_of_getElem? (i := 940) (by decide +kernel), List.mem_of_getElem? (i := 1259) (by decide +kernel), List.mem_of_getElem? (i := 1260) (by decide +kernel)⟩
theorem lw_p75 : lw_okq (⟨"ReplayDeskModel", "isGone", "(I)Z"⟩, 45) := ⟨⟨by decide +kernel, by decide +kernel⟩, List.mem_of_getElem? (i := 940) (by decide +kernel), List.mem_of_getElem? (i := 1275) (by decide +kernel), List.mem_of_getElem? (i := 1276) (by decide +kernel)⟩
def lw_privs_5 : List (MethodName × Nat) := [(⟨"ReplayDeskModel", "work", "(I)I"⟩, 45), (⟨"ReplayDeskModel", "statement", "(I)V"⟩, 45), (⟨"ReplayDeskModel", "stop", "(I)V"⟩, 45), (⟨"ReplayDeskModel", "command", "(III)I"⟩, 45), (⟨"ReplayDeskModel", "isCommand", "(I)Z"⟩, 45), (⟨"ReplayDeskModel", "goOn", "()V"⟩, 45), (⟨"ReplayDeskModel", "patch", "(I)V"⟩, 45), (⟨"ReplayDeskModel", "isDone", "(I)Z"⟩, 45), (⟨"ReplayDeskModel", "waits", "(I)V"⟩, 45), (⟨"ReplayDeskModel", "isReady", "(I)Z"⟩, 45), (⟨"ReplayDeskModel", "hasSignal", "()Z"⟩, 45), (⟨"ReplayDeskModel", "isGone", "(I)Z"⟩, 45)]
theorem lw_r5 : ∀ q ∈ lw_privs_5, lw_okq q := List.forall_mem_cons.mpr ⟨lw_p64, List.forall_mem_cons.mpr ⟨lw_p65, List.forall_mem_cons.mpr ⟨lw_p66, List.forall_mem_cons.mpr ⟨lw_p67, List.forall_mem_cons.mpr ⟨lw_p68, List.forall_mem_cons.mpr ⟨lw_p69, List.forall_mem_cons.mpr ⟨lw_p70, List.forall_mem_cons.mpr ⟨lw_p71, List.forall_mem_cons.mpr ⟨lw_p72, List.forall_mem_cons.mpr ⟨lw_p73, List.forall_mem_cons.mpr ⟨lw_p74, List.forall_mem_cons.mpr ⟨lw_p75, fun _ h => absurd h List.not_mem_nil⟩⟩⟩⟩⟩⟩⟩⟩⟩⟩⟩⟩
def lw_privs : List (MethodName × Nat) := lw_privs_1 ++ (lw_privs_2 ++ (lw_privs_3 ++ (lw_privs_4 ++ (lw_privs_5))))
def lw_tbl : List Cond := k2_sels lw_privs ++ tables_1
theorem lw_privs_ok : ∀ q ∈ lw_privs, lw_okq q := by
  show ∀ q ∈ lw_privs_1 ++ (lw_privs_2 ++ (lw_privs_3 ++ (lw_privs_4 ++ (lw_privs_5)))), lw_okq q
  exact List.forall_mem_append.mpr ⟨lw_r1, List.forall_mem_append.mpr ⟨lw_r2, List.forall_mem_append.mpr ⟨lw_r3, List.forall_mem_append.mpr ⟨lw_r4, lw_r5⟩⟩⟩⟩
end
section
-- names, fields and codes of the program, as TURN printed them
def RX0 : String := "ReplayDesk$History"
def TX0 : u_T := fun k => match k with
  | 0 => ("ReplayDesk$History", "kinds", "[I", true)
  | 1 => ("ReplayDesk$History", "refs", "[I", true)
  | 2 => ("ReplayDesk$History", "values", "[I", true)
  | 3 => ("ReplayDesk$History", "overBy", "[I", true)
  | 4 => ("ReplayDesk$History", "signals", "[I", true)
  | 5 => ("ReplayDesk$History", "size", "I", false)
  | _ => ("ReplayDesk$History", "signalCount", "I", false)
def tyX0 : Nat → FieldType := fun k => match k with
  | 0 => .array .int
  | 1 => .array .int
  | 2 => .array .int
  | 3 => .array .int
  | 4 => .array .int
  | 5 => .int
  | _ => .int
abbrev wsX00 : List Cond := u_ws RX0 TX0 7
theorem nmX0 : ∀ a, a < 7 → ∀ b, b < 7 → a ≠ b → (TX0 a).2.1 ≠ (TX0 b).2.1 := by decide +kernel
theorem tyX0_ok : ∀ k, k < 7 → parseFieldDescriptor (TX0 k).2.2.1 = some (tyX0 k) := by decide +kernel
abbrev cX0_init : ByteArray := prog_2_method_1_code
def yX0_init : MethodName := ⟨RX0, "<init>", "()V"⟩
abbrev cX0_wipe : ByteArray := prog_2_method_2_code
def yX0_wipe : MethodName := ⟨RX0, "wipe", "()V"⟩
abbrev cX0_size : ByteArray := prog_2_method_3_code
def yX0_size : MethodName := ⟨RX0, "size", "()I"⟩
abbrev cX0_holds : ByteArray := prog_2_method_4_code
def yX0_holds : MethodName := ⟨RX0, "holds", "(I)Z"⟩
abbrev cX0_kindAt : ByteArray := prog_2_method_5_code
def yX0_kindAt : MethodName := ⟨RX0, "kindAt", "(I)I"⟩
abbrev cX0_refAt : ByteArray := prog_2_method_6_code
def yX0_refAt : MethodName := ⟨RX0, "refAt", "(I)I"⟩
abbrev cX0_valueAt : ByteArray := prog_2_method_7_code
def yX0_valueAt : MethodName := ⟨RX0, "valueAt", "(I)I"⟩
abbrev cX0_count : ByteArray := prog_2_method_8_code
def yX0_count : MethodName := ⟨RX0, "count", "(II)I"⟩
abbrev cX0_add : ByteArray := prog_2_method_9_code
def yX0_add : MethodName := ⟨RX0, "add", "(III)Z"⟩
abbrev cX0_addOfOthers : ByteArray := prog_2_method_10_code
def yX0_addOfOthers : MethodName := ⟨RX0, "addOfOthers", "(III)Z"⟩
abbrev cX0_dropDecision : ByteArray := prog_2_method_11_code
def yX0_dropDecision : MethodName := ⟨RX0, "dropDecision", "(I)V"⟩
abbrev cX0_decisionEnd : ByteArray := prog_2_method_12_code
def yX0_decisionEnd : MethodName := ⟨RX0, "decisionEnd", "(I)I"⟩
abbrev cX0_isAt : ByteArray := prog_2_method_13_code
def yX0_isAt : MethodName := ⟨RX0, "isAt", "(IIII)Z"⟩
abbrev cX0_endOf : ByteArray := prog_2_method_14_code
def yX0_endOf : MethodName := ⟨RX0, "endOf", "(II)I"⟩
abbrev cX0_signal : ByteArray := prog_2_method_15_code
def yX0_signal : MethodName := ⟨RX0, "signal", "(II)I"⟩
abbrev cX0_addSignal : ByteArray := prog_2_method_16_code
def yX0_addSignal : MethodName := ⟨RX0, "addSignal", "(I)V"⟩
abbrev cX0_fits : ByteArray := prog_2_method_17_code
def yX0_fits : MethodName := ⟨RX0, "fits", "(III)Z"⟩
abbrev cX0_isOpen : ByteArray := prog_2_method_18_code
def yX0_isOpen : MethodName := ⟨RX0, "isOpen", "(II)Z"⟩
def RX1 : String := "ReplayDesk$Program"
def TX1 : u_T := fun k => match k with
  | 0 => ("ReplayDesk$Program", "sorts", "[I", true)
  | 1 => ("ReplayDesk$Program", "targets", "[I", true)
  | 2 => ("ReplayDesk$Program", "firsts", "[I", true)
  | 3 => ("ReplayDesk$Program", "seconds", "[I", true)
  | 4 => ("ReplayDesk$Program", "itemsFrom", "[I", true)
  | 5 => ("ReplayDesk$Program", "itemSorts", "[I", true)
  | 6 => ("ReplayDesk$Program", "itemValues", "[I", true)
  | 7 => ("ReplayDesk$Program", "size", "I", false)
  | 8 => ("ReplayDesk$Program", "items", "I", false)
  | _ => ("ReplayDesk$Program", "jumps", "I", false)
def tyX1 : Nat → FieldType := fun k => match k with
  | 0 => .array .int
  | 1 => .array .int
  | 2 => .array .int
  | 3 => .array .int
  | 4 => .array .int
  | 5 => .array .int
  | 6 => .array .int
  | 7 => .int
  | 8 => .int
  | _ => .int
abbrev wsX10 : List Cond := u_ws RX1 TX1 10
theorem nmX1 : ∀ a, a < 10 → ∀ b, b < 10 → a ≠ b → (TX1 a).2.1 ≠ (TX1 b).2.1 := by decide +kernel
theorem tyX1_ok : ∀ k, k < 10 → parseFieldDescriptor (TX1 k).2.2.1 = some (tyX1 k) := by decide +kernel
abbrev cX1_init : ByteArray := prog_3_method_1_code
def yX1_init : MethodName := ⟨RX1, "<init>", "()V"⟩
abbrev cX1_wipe : ByteArray := prog_3_method_2_code
def yX1_wipe : MethodName := ⟨RX1, "wipe", "()V"⟩
abbrev cX1_copyFrom : ByteArray := prog_3_method_3_code
def yX1_copyFrom : MethodName := ⟨RX1, "copyFrom", "(LReplayDesk$Program;)V"⟩
abbrev cX1_size : ByteArray := prog_3_method_4_code
def yX1_size : MethodName := ⟨RX1, "size", "()I"⟩
abbrev cX1_statementCount : ByteArray := prog_3_method_5_code
def yX1_statementCount : MethodName := ⟨RX1, "statementCount", "()I"⟩
abbrev cX1_add : ByteArray := prog_3_method_6_code
def yX1_add : MethodName := ⟨RX1, "add", "(II)I"⟩
abbrev cX1_addJump : ByteArray := prog_3_method_7_code
def yX1_addJump : MethodName := ⟨RX1, "addJump", "(I)I"⟩
abbrev cX1_addItem : ByteArray := prog_3_method_8_code
def yX1_addItem : MethodName := ⟨RX1, "addItem", "(II)V"⟩
abbrev cX1_setSort : ByteArray := prog_3_method_9_code
def yX1_setSort : MethodName := ⟨RX1, "setSort", "(II)V"⟩
abbrev cX1_setFirst : ByteArray := prog_3_method_10_code
def yX1_setFirst : MethodName := ⟨RX1, "setFirst", "(II)V"⟩
abbrev cX1_setSecond : ByteArray := prog_3_method_11_code
def yX1_setSecond : MethodName := ⟨RX1, "setSecond", "(II)V"⟩
abbrev cX1_sortAt : ByteArray := prog_3_method_12_code
def yX1_sortAt : MethodName := ⟨RX1, "sortAt", "(I)I"⟩
abbrev cX1_targetAt : ByteArray := prog_3_method_13_code
def yX1_targetAt : MethodName := ⟨RX1, "targetAt", "(I)I"⟩
abbrev cX1_firstAt : ByteArray := prog_3_method_14_code
def yX1_firstAt : MethodName := ⟨RX1, "firstAt", "(I)I"⟩
abbrev cX1_secondAt : ByteArray := prog_3_method_15_code
def yX1_secondAt : MethodName := ⟨RX1, "secondAt", "(I)I"⟩
abbrev cX1_firstItem : ByteArray := prog_3_method_16_code
def yX1_firstItem : MethodName := ⟨RX1, "firstItem", "(I)I"⟩
abbrev cX1_itemEnd : ByteArray := prog_3_method_17_code
def yX1_itemEnd : MethodName := ⟨RX1, "itemEnd", "(I)I"⟩
abbrev cX1_itemSort : ByteArray := prog_3_method_18_code
def yX1_itemSort : MethodName := ⟨RX1, "itemSort", "(I)I"⟩
abbrev cX1_itemValue : ByteArray := prog_3_method_19_code
def yX1_itemValue : MethodName := ⟨RX1, "itemValue", "(I)I"⟩
abbrev cX1_holds : ByteArray := prog_3_method_20_code
def yX1_holds : MethodName := ⟨RX1, "holds", "(I)Z"⟩
def RX2 : String := "ReplayDesk$Reader"
def TX2 : u_T := fun k => match k with
  | 0 => ("ReplayDesk$Reader", "tokens", "LReplayDesk$Tokens;", true)
  | _ => ("ReplayDesk$Reader", "made", "LReplayDesk$Program;", true)
def tyX2 : Nat → FieldType := fun k => match k with
  | 0 => .object "ReplayDesk$Tokens"
  | _ => .object "ReplayDesk$Program"
abbrev wsX20 : List Cond := u_ws RX2 TX2 2
theorem nmX2 : ∀ a, a < 2 → ∀ b, b < 2 → a ≠ b → (TX2 a).2.1 ≠ (TX2 b).2.1 := by decide +kernel
theorem tyX2_ok : ∀ k, k < 2 → parseFieldDescriptor (TX2 k).2.2.1 = some (tyX2 k) := by decide +kernel
abbrev cX2_init : ByteArray := prog_4_method_1_code
def yX2_init : MethodName := ⟨RX2, "<init>", "(LReplayDesk$Tokens;LReplayDesk$Program;)V"⟩
abbrev cX2_read : ByteArray := prog_4_method_2_code
def yX2_read : MethodName := ⟨RX2, "read", "()I"⟩
abbrev cX2_readStatements : ByteArray := prog_4_method_3_code
def yX2_readStatements : MethodName := ⟨RX2, "readStatements", "(I)Z"⟩
abbrev cX2_isBlockEnd : ByteArray := prog_4_method_4_code
def yX2_isBlockEnd : MethodName := ⟨RX2, "isBlockEnd", "(I)Z"⟩
abbrev cX2_readStatement : ByteArray := prog_4_method_5_code
def yX2_readStatement : MethodName := ⟨RX2, "readStatement", "(I)Z"⟩
abbrev cX2_readChoice : ByteArray := prog_4_method_6_code
def yX2_readChoice : MethodName := ⟨RX2, "readChoice", "(I)Z"⟩
abbrev cX2_readLoop : ByteArray := prog_4_method_7_code
def yX2_readLoop : MethodName := ⟨RX2, "readLoop", "(I)Z"⟩
abbrev cX2_readStop : ByteArray := prog_4_method_8_code
def yX2_readStop : MethodName := ⟨RX2, "readStop", "(I)Z"⟩
abbrev cX2_readAssignment : ByteArray := prog_4_method_9_code
def yX2_readAssignment : MethodName := ⟨RX2, "readAssignment", "(I)Z"⟩
abbrev cX2_readRest : ByteArray := prog_4_method_10_code
def yX2_readRest : MethodName := ⟨RX2, "readRest", "(III)Z"⟩
abbrev cX2_readFirst : ByteArray := prog_4_method_11_code
def yX2_readFirst : MethodName := ⟨RX2, "readFirst", "(II)Z"⟩
abbrev cX2_readSecond : ByteArray := prog_4_method_12_code
def yX2_readSecond : MethodName := ⟨RX2, "readSecond", "(I)Z"⟩
abbrev cX2_readX : ByteArray := prog_4_method_13_code
def yX2_readX : MethodName := ⟨RX2, "readX", "(I)Z"⟩
abbrev cX2_readPart : ByteArray := prog_4_method_14_code
def yX2_readPart : MethodName := ⟨RX2, "readPart", "(I)Z"⟩
abbrev cX2_readTerm : ByteArray := prog_4_method_15_code
def yX2_readTerm : MethodName := ⟨RX2, "readTerm", "(I)Z"⟩
abbrev cX2_readFactor : ByteArray := prog_4_method_16_code
def yX2_readFactor : MethodName := ⟨RX2, "readFactor", "(I)Z"⟩
def RX3 : String := "ReplayDesk$Run"
def TX3 : u_T := fun k => match k with
  | 0 => ("ReplayDesk$Run", "registers", "[I", true)
  | 1 => ("ReplayDesk$Run", "entry", "I", false)
  | 2 => ("ReplayDesk$Run", "taken", "I", false)
  | 3 => ("ReplayDesk$Run", "steps", "I", false)
  | 4 => ("ReplayDesk$Run", "behind", "I", false)
  | _ => ("ReplayDesk$Run", "stopped", "Z", false)
def tyX3 : Nat → FieldType := fun k => match k with
  | 0 => .array .int
  | 1 => .int
  | 2 => .int
  | 3 => .int
  | 4 => .int
  | _ => .boolean
abbrev wsX30 : List Cond := u_ws RX3 TX3 6
theorem nmX3 : ∀ a, a < 6 → ∀ b, b < 6 → a ≠ b → (TX3 a).2.1 ≠ (TX3 b).2.1 := by decide +kernel
theorem tyX3_ok : ∀ k, k < 6 → parseFieldDescriptor (TX3 k).2.2.1 = some (tyX3 k) := by decide +kernel
abbrev cX3_init : ByteArray := prog_5_method_1_code
def yX3_init : MethodName := ⟨RX3, "<init>", "()V"⟩
abbrev cX3_restart : ByteArray := prog_5_method_2_code
def yX3_restart : MethodName := ⟨RX3, "restart", "()V"⟩
abbrev cX3_copyFrom : ByteArray := prog_5_method_3_code
def yX3_copyFrom : MethodName := ⟨RX3, "copyFrom", "(LReplayDesk$Run;)V"⟩
abbrev cX3_get : ByteArray := prog_5_method_4_code
def yX3_get : MethodName := ⟨RX3, "get", "(I)I"⟩
abbrev cX3_set : ByteArray := prog_5_method_5_code
def yX3_set : MethodName := ⟨RX3, "set", "(II)V"⟩
def RX4 : String := "ReplayDesk$Runner"
def TX4 : u_T := fun k => match k with
  | 0 => ("ReplayDesk$Runner", "program", "LReplayDesk$Program;", true)
  | 1 => ("ReplayDesk$Runner", "history", "LReplayDesk$History;", true)
  | 2 => ("ReplayDesk$Runner", "run", "LReplayDesk$Run;", true)
  | 3 => ("ReplayDesk$Runner", "before", "LReplayDesk$Run;", true)
  | 4 => ("ReplayDesk$Runner", "stack", "[I", true)
  | 5 => ("ReplayDesk$Runner", "height", "I", false)
  | 6 => ("ReplayDesk$Runner", "begin", "I", false)
  | 7 => ("ReplayDesk$Runner", "place", "I", false)
  | 8 => ("ReplayDesk$Runner", "end", "I", false)
  | 9 => ("ReplayDesk$Runner", "isNew", "Z", false)
  | 10 => ("ReplayDesk$Runner", "waits", "Z", false)
  | 11 => ("ReplayDesk$Runner", "trouble", "I", false)
  | _ => ("ReplayDesk$Runner", "differsAt", "I", false)
def tyX4 : Nat → FieldType := fun k => match k with
  | 0 => .object "ReplayDesk$Program"
  | 1 => .object "ReplayDesk$History"
  | 2 => .object "ReplayDesk$Run"
  | 3 => .object "ReplayDesk$Run"
  | 4 => .array .int
  | 5 => .int
  | 6 => .int
  | 7 => .int
  | 8 => .int
  | 9 => .boolean
  | 10 => .boolean
  | 11 => .int
  | _ => .int
abbrev wsX40 : List Cond := u_ws RX4 TX4 13
theorem nmX4 : ∀ a, a < 13 → ∀ b, b < 13 → a ≠ b → (TX4 a).2.1 ≠ (TX4 b).2.1 := by decide +kernel
theorem tyX4_ok : ∀ k, k < 13 → parseFieldDescriptor (TX4 k).2.2.1 = some (tyX4 k) := by decide +kernel
abbrev cX4_init : ByteArray := prog_6_method_1_code
def yX4_init : MethodName := ⟨RX4, "<init>", "(LReplayDesk$Program;LReplayDesk$History;LReplayDesk$Run;)V"⟩
abbrev cX4_catchUp : ByteArray := prog_6_method_2_code
def yX4_catchUp : MethodName := ⟨RX4, "catchUp", "()I"⟩
abbrev cX4_addDecision : ByteArray := prog_6_method_3_code
def yX4_addDecision : MethodName := ⟨RX4, "addDecision", "(I)I"⟩
abbrev cX4_runDecision : ByteArray := prog_6_method_4_code
def yX4_runDecision : MethodName := ⟨RX4, "runDecision", "(IIZ)V"⟩
abbrev cX4_turn : ByteArray := prog_6_method_5_code
def yX4_turn : MethodName := ⟨RX4, "turn", "(II)V"⟩
abbrev cX4_finish : ByteArray := prog_6_method_6_code
def yX4_finish : MethodName := ⟨RX4, "finish", "(I)V"⟩
abbrev cX4_order : ByteArray := prog_6_method_7_code
def yX4_order : MethodName := ⟨RX4, "order", "(III)V"⟩
abbrev cX4_stop : ByteArray := prog_6_method_8_code
def yX4_stop : MethodName := ⟨RX4, "stop", "(I)V"⟩
abbrev cX4_patch : ByteArray := prog_6_method_9_code
def yX4_patch : MethodName := ⟨RX4, "patch", "(I)V"⟩
abbrev cX4_want : ByteArray := prog_6_method_10_code
def yX4_want : MethodName := ⟨RX4, "want", "(III)Z"⟩
abbrev cX4_differ : ByteArray := prog_6_method_11_code
def yX4_differ : MethodName := ⟨RX4, "differ", "()V"⟩
abbrev cX4_waitFor : ByteArray := prog_6_method_12_code
def yX4_waitFor : MethodName := ⟨RX4, "waitFor", "(I)V"⟩
abbrev cX4_waitForAny : ByteArray := prog_6_method_13_code
def yX4_waitForAny : MethodName := ⟨RX4, "waitForAny", "(II)V"⟩
abbrev cX4_takeSignal : ByteArray := prog_6_method_14_code
def yX4_takeSignal : MethodName := ⟨RX4, "takeSignal", "()V"⟩
abbrev cX4_endOf : ByteArray := prog_6_method_15_code
def yX4_endOf : MethodName := ⟨RX4, "endOf", "(I)I"⟩
abbrev cX4_workOut : ByteArray := prog_6_method_16_code
def yX4_workOut : MethodName := ⟨RX4, "workOut", "()I"⟩
abbrev cX4_work : ByteArray := prog_6_method_17_code
def yX4_work : MethodName := ⟨RX4, "work", "(II)V"⟩
abbrev cX4_join : ByteArray := prog_6_method_18_code
def yX4_join : MethodName := ⟨RX4, "join", "(III)I"⟩
abbrev cX4_push : ByteArray := prog_6_method_19_code
def yX4_push : MethodName := ⟨RX4, "push", "(I)V"⟩
abbrev cX4_pop : ByteArray := prog_6_method_20_code
def yX4_pop : MethodName := ⟨RX4, "pop", "()I"⟩
def RX5 : String := "ReplayDesk$Tape"
def TX5 : u_T := fun k => match k with
  | 0 => ("ReplayDesk$Tape", "signs", "[C", true)
  | _ => ("ReplayDesk$Tape", "length", "I", false)
def tyX5 : Nat → FieldType := fun k => match k with
  | 0 => .array .char
  | _ => .int
abbrev wsX50 : List Cond := u_ws RX5 TX5 2
theorem nmX5 : ∀ a, a < 2 → ∀ b, b < 2 → a ≠ b → (TX5 a).2.1 ≠ (TX5 b).2.1 := by decide +kernel
theorem tyX5_ok : ∀ k, k < 2 → parseFieldDescriptor (TX5 k).2.2.1 = some (tyX5 k) := by decide +kernel
abbrev cX5_init : ByteArray := prog_7_method_1_code
def yX5_init : MethodName := ⟨RX5, "<init>", "()V"⟩
abbrev cX5_put : ByteArray := prog_7_method_2_code
def yX5_put : MethodName := ⟨RX5, "put", "(JI)Z"⟩
abbrev cX5_wipe : ByteArray := prog_7_method_3_code
def yX5_wipe : MethodName := ⟨RX5, "wipe", "()V"⟩
abbrev cX5_length : ByteArray := prog_7_method_4_code
def yX5_length : MethodName := ⟨RX5, "length", "()I"⟩
abbrev cX5_at : ByteArray := prog_7_method_5_code
def yX5_at : MethodName := ⟨RX5, "at", "(I)I"⟩
abbrev cX5_byteOf : ByteArray := prog_7_method_6_code
def yX5_byteOf : MethodName := ⟨RX5, "byteOf", "(JI)I"⟩
def RX6 : String := "ReplayDesk$Tokens"
def TX6 : u_T := fun k => match k with
  | 0 => ("ReplayDesk$Tokens", "kinds", "[I", true)
  | 1 => ("ReplayDesk$Tokens", "places", "[I", true)
  | 2 => ("ReplayDesk$Tokens", "values", "[I", true)
  | 3 => ("ReplayDesk$Tokens", "size", "I", false)
  | _ => ("ReplayDesk$Tokens", "next", "I", false)
def tyX6 : Nat → FieldType := fun k => match k with
  | 0 => .array .int
  | 1 => .array .int
  | 2 => .array .int
  | 3 => .int
  | _ => .int
abbrev wsX60 : List Cond := u_ws RX6 TX6 5
theorem nmX6 : ∀ a, a < 5 → ∀ b, b < 5 → a ≠ b → (TX6 a).2.1 ≠ (TX6 b).2.1 := by decide +kernel
theorem tyX6_ok : ∀ k, k < 5 → parseFieldDescriptor (TX6 k).2.2.1 = some (tyX6 k) := by decide +kernel
abbrev cX6_init : ByteArray := prog_8_method_1_code
def yX6_init : MethodName := ⟨RX6, "<init>", "()V"⟩
abbrev cX6_scan : ByteArray := prog_8_method_2_code
def yX6_scan : MethodName := ⟨RX6, "scan", "(LReplayDesk$Tape;)V"⟩
abbrev cX6_kind : ByteArray := prog_8_method_3_code
def yX6_kind : MethodName := ⟨RX6, "kind", "()I"⟩
abbrev cX6_place : ByteArray := prog_8_method_4_code
def yX6_place : MethodName := ⟨RX6, "place", "()I"⟩
abbrev cX6_value : ByteArray := prog_8_method_5_code
def yX6_value : MethodName := ⟨RX6, "value", "()I"⟩
abbrev cX6_skip : ByteArray := prog_8_method_6_code
def yX6_skip : MethodName := ⟨RX6, "skip", "()V"⟩
abbrev cX6_take : ByteArray := prog_8_method_7_code
def yX6_take : MethodName := ⟨RX6, "take", "(I)Z"⟩
abbrev cX6_isWord : ByteArray := prog_8_method_8_code
def yX6_isWord : MethodName := ⟨RX6, "isWord", "(I)Z"⟩
abbrev cX6_add : ByteArray := prog_8_method_9_code
def yX6_add : MethodName := ⟨RX6, "add", "(III)V"⟩
abbrev cX6_addFrom : ByteArray := prog_8_method_10_code
def yX6_addFrom : MethodName := ⟨RX6, "addFrom", "(LReplayDesk$Tape;I)V"⟩
abbrev cX6_addName : ByteArray := prog_8_method_11_code
def yX6_addName : MethodName := ⟨RX6, "addName", "(LReplayDesk$Tape;I)V"⟩
abbrev cX6_addNumber : ByteArray := prog_8_method_12_code
def yX6_addNumber : MethodName := ⟨RX6, "addNumber", "(LReplayDesk$Tape;I)V"⟩
abbrev cX6_isStart : ByteArray := prog_8_method_13_code
def yX6_isStart : MethodName := ⟨RX6, "isStart", "(LReplayDesk$Tape;I)Z"⟩
abbrev cX6_isLetter : ByteArray := prog_8_method_14_code
def yX6_isLetter : MethodName := ⟨RX6, "isLetter", "(I)Z"⟩
abbrev cX6_isDigit : ByteArray := prog_8_method_15_code
def yX6_isDigit : MethodName := ⟨RX6, "isDigit", "(I)Z"⟩
abbrev cX6_sortOfWord : ByteArray := prog_8_method_16_code
def yX6_sortOfWord : MethodName := ⟨RX6, "sortOfWord", "(LReplayDesk$Tape;II)I"⟩
abbrev cX6_spells : ByteArray := prog_8_method_17_code
def yX6_spells : MethodName := ⟨RX6, "spells", "(LReplayDesk$Tape;IILjava/lang/String;)Z"⟩
def RX7 : String := "ReplayDesk"
def TX7 : u_T := fun k => match k with
  | 0 => ("ReplayDesk", "tape", "LReplayDesk$Tape;", true)
  | 1 => ("ReplayDesk", "tokens", "LReplayDesk$Tokens;", true)
  | 2 => ("ReplayDesk", "draft", "LReplayDesk$Program;", true)
  | 3 => ("ReplayDesk", "current", "LReplayDesk$Program;", true)
  | 4 => ("ReplayDesk", "reader", "LReplayDesk$Reader;", true)
  | 5 => ("ReplayDesk", "history", "LReplayDesk$History;", true)
  | 6 => ("ReplayDesk", "run", "LReplayDesk$Run;", true)
  | 7 => ("ReplayDesk", "told", "LReplayDesk$Run;", true)
  | 8 => ("ReplayDesk", "runner", "LReplayDesk$Runner;", true)
  | 9 => ("ReplayDesk", "hasProgram", "Z", false)
  | 10 => ("ReplayDesk", "faultPlace", "I", false)
  | 11 => ("ReplayDesk", "refusal", "I", false)
  | _ => ("ReplayDesk", "differsPlace", "I", false)
def tyX7 : Nat → FieldType := fun k => match k with
  | 0 => .object "ReplayDesk$Tape"
  | 1 => .object "ReplayDesk$Tokens"
  | 2 => .object "ReplayDesk$Program"
  | 3 => .object "ReplayDesk$Program"
  | 4 => .object "ReplayDesk$Reader"
  | 5 => .object "ReplayDesk$History"
  | 6 => .object "ReplayDesk$Run"
  | 7 => .object "ReplayDesk$Run"
  | 8 => .object "ReplayDesk$Runner"
  | 9 => .boolean
  | 10 => .int
  | 11 => .int
  | _ => .int
abbrev wsX70 : List Cond := u_ws RX7 TX7 13
theorem nmX7 : ∀ a, a < 13 → ∀ b, b < 13 → a ≠ b → (TX7 a).2.1 ≠ (TX7 b).2.1 := by decide +kernel
theorem tyX7_ok : ∀ k, k < 13 → parseFieldDescriptor (TX7 k).2.2.1 = some (tyX7 k) := by decide +kernel
abbrev cX7_init : ByteArray := prog_1_method_1_code
def yX7_init : MethodName := ⟨RX7, "<init>", "()V"⟩
abbrev cX7_type : ByteArray := prog_1_method_2_code
def yX7_type : MethodName := ⟨RX7, "type", "(JI)Z"⟩
abbrev cX7_program : ByteArray := prog_1_method_3_code
def yX7_program : MethodName := ⟨RX7, "program", "()I"⟩
abbrev cX7_fault : ByteArray := prog_1_method_4_code
def yX7_fault : MethodName := ⟨RX7, "fault", "()I"⟩
abbrev cX7_decide : ByteArray := prog_1_method_5_code
def yX7_decide : MethodName := ⟨RX7, "decide", "(I)I"⟩
abbrev cX7_refused : ByteArray := prog_1_method_6_code
def yX7_refused : MethodName := ⟨RX7, "refused", "()I"⟩
abbrev cX7_differs : ByteArray := prog_1_method_7_code
def yX7_differs : MethodName := ⟨RX7, "differs", "()I"⟩
abbrev cX7_happen : ByteArray := prog_1_method_8_code
def yX7_happen : MethodName := ⟨RX7, "happen", "(III)Z"⟩
abbrev cX7_crash : ByteArray := prog_1_method_9_code
def yX7_crash : MethodName := ⟨RX7, "crash", "()V"⟩
abbrev cX7_clear : ByteArray := prog_1_method_10_code
def yX7_clear : MethodName := ⟨RX7, "clear", "()V"⟩
abbrev cX7_event : ByteArray := prog_1_method_11_code
def yX7_event : MethodName := ⟨RX7, "event", "(II)I"⟩
abbrev cX7_register : ByteArray := prog_1_method_12_code
def yX7_register : MethodName := ⟨RX7, "register", "(I)I"⟩
abbrev cX7_total : ByteArray := prog_1_method_13_code
def yX7_total : MethodName := ⟨RX7, "total", "(I)I"⟩
def RX8 : String := "ReplayDeskModel"
def TX8 : u_T := fun k => match k with
  | 0 => ("ReplayDeskModel", "thrown", "I", false)
  | 1 => ("ReplayDeskModel", "tape", "[I", true)
  | 2 => ("ReplayDeskModel", "taped", "I", false)
  | 3 => ("ReplayDeskModel", "fault", "I", false)
  | 4 => ("ReplayDeskModel", "tokens", "I", false)
  | 5 => ("ReplayDeskModel", "kind", "[I", true)
  | 6 => ("ReplayDeskModel", "place", "[I", true)
  | 7 => ("ReplayDeskModel", "value", "[I", true)
  | 8 => ("ReplayDeskModel", "at", "I", false)
  | 9 => ("ReplayDeskModel", "depth", "I", false)
  | 10 => ("ReplayDeskModel", "side", "I", false)
  | 11 => ("ReplayDeskModel", "there", "Z", false)
  | 12 => ("ReplayDeskModel", "first", "[I", true)
  | 13 => ("ReplayDeskModel", "nodes", "[I", true)
  | 14 => ("ReplayDeskModel", "counted", "I", false)
  | 15 => ("ReplayDeskModel", "op", "[I", true)
  | 16 => ("ReplayDeskModel", "a", "[I", true)
  | 17 => ("ReplayDeskModel", "b", "[I", true)
  | 18 => ("ReplayDeskModel", "c", "[I", true)
  | 19 => ("ReplayDeskModel", "next", "[I", true)
  | 20 => ("ReplayDeskModel", "events", "I", false)
  | 21 => ("ReplayDeskModel", "what", "[I", true)
  | 22 => ("ReplayDeskModel", "ref", "[I", true)
  | 23 => ("ReplayDeskModel", "val", "[I", true)
  | 24 => ("ReplayDeskModel", "seen", "[I", true)
  | 25 => ("ReplayDeskModel", "stopped", "I", false)
  | 26 => ("ReplayDeskModel", "steps", "I", false)
  | 27 => ("ReplayDeskModel", "taken", "I", false)
  | 28 => ("ReplayDeskModel", "refused", "I", false)
  | 29 => ("ReplayDeskModel", "differs", "I", false)
  | 30 => ("ReplayDeskModel", "now", "[I", true)
  | 31 => ("ReplayDeskModel", "state", "I", false)
  | 32 => ("ReplayDeskModel", "begin", "I", false)
  | 33 => ("ReplayDeskModel", "pos", "I", false)
  | 34 => ("ReplayDeskModel", "live", "Z", false)
  | 35 => ("ReplayDeskModel", "total", "I", false)
  | 36 => ("ReplayDeskModel", "stepped", "I", false)
  | 37 => ("ReplayDeskModel", "took", "I", false)
  | 38 => ("ReplayDeskModel", "isOver", "Z", false)
  | 39 => ("ReplayDeskModel", "time", "I", false)
  | 40 => ("ReplayDeskModel", "where", "I", false)
  | 41 => ("ReplayDeskModel", "made", "I", false)
  | 42 => ("ReplayDeskModel", "register", "I", false)
  | 43 => ("ReplayDeskModel", "given", "I", false)
  | _ => ("ReplayDeskModel", "gave", "I", false)
def tyX8 : Nat → FieldType := fun k => match k with
  | 0 => .int
  | 1 => .array .int
  | 2 => .int
  | 3 => .int
  | 4 => .int
  | 5 => .array .int
  | 6 => .array .int
  | 7 => .array .int
  | 8 => .int
  | 9 => .int
  | 10 => .int
  | 11 => .boolean
  | 12 => .array .int
  | 13 => .array .int
  | 14 => .int
  | 15 => .array .int
  | 16 => .array .int
  | 17 => .array .int
  | 18 => .array .int
  | 19 => .array .int
  | 20 => .int
  | 21 => .array .int
  | 22 => .array .int
  | 23 => .array .int
  | 24 => .array .int
  | 25 => .int
  | 26 => .int
  | 27 => .int
  | 28 => .int
  | 29 => .int
  | 30 => .array .int
  | 31 => .int
  | 32 => .int
  | 33 => .int
  | 34 => .boolean
  | 35 => .int
  | 36 => .int
  | 37 => .int
  | 38 => .boolean
  | 39 => .int
  | 40 => .int
  | 41 => .int
  | 42 => .int
  | 43 => .int
  | _ => .int
abbrev wsX80 : List Cond := u_ws RX8 TX8 45
theorem nmX8 : ∀ a, a < 45 → ∀ b, b < 45 → a ≠ b → (TX8 a).2.1 ≠ (TX8 b).2.1 := by decide +kernel
theorem tyX8_ok : ∀ k, k < 45 → parseFieldDescriptor (TX8 k).2.2.1 = some (tyX8 k) := by decide +kernel
abbrev cX8_init : ByteArray := prog_10_method_1_code
def yX8_init : MethodName := ⟨RX8, "<init>", "()V"⟩
abbrev cX8_thrown : ByteArray := prog_10_method_2_code
def yX8_thrown : MethodName := ⟨RX8, "thrown", "()I"⟩
abbrev cX8_raise : ByteArray := prog_10_method_3_code
def yX8_raise : MethodName := ⟨RX8, "raise", "(I)I"⟩
abbrev cX8_type : ByteArray := prog_10_method_4_code
def yX8_type : MethodName := ⟨RX8, "type", "(JI)Z"⟩
abbrev cX8_see : ByteArray := prog_10_method_5_code
def yX8_see : MethodName := ⟨RX8, "see", "(I)I"⟩
abbrev cX8_isDigit : ByteArray := prog_10_method_6_code
def yX8_isDigit : MethodName := ⟨RX8, "isDigit", "(I)Z"⟩
abbrev cX8_isLetter : ByteArray := prog_10_method_7_code
def yX8_isLetter : MethodName := ⟨RX8, "isLetter", "(I)Z"⟩
abbrev cX8_isSign : ByteArray := prog_10_method_8_code
def yX8_isSign : MethodName := ⟨RX8, "isSign", "(I)Z"⟩
abbrev cX8_token : ByteArray := prog_10_method_9_code
def yX8_token : MethodName := ⟨RX8, "token", "(III)V"⟩
abbrev cX8_spelt : ByteArray := prog_10_method_10_code
def yX8_spelt : MethodName := ⟨RX8, "spelt", "(IIII)I"⟩
abbrev cX8_nameOf : ByteArray := prog_10_method_11_code
def yX8_nameOf : MethodName := ⟨RX8, "nameOf", "(II)I"⟩
abbrev cX8_tokenize : ByteArray := prog_10_method_12_code
def yX8_tokenize : MethodName := ⟨RX8, "tokenize", "()V"⟩
abbrev cX8_refuse : ByteArray := prog_10_method_13_code
def yX8_refuse : MethodName := ⟨RX8, "refuse", "()Z"⟩
abbrev cX8_is : ByteArray := prog_10_method_14_code
def yX8_is : MethodName := ⟨RX8, "is", "(I)Z"⟩
abbrev cX8_takes : ByteArray := prog_10_method_15_code
def yX8_takes : MethodName := ⟨RX8, "takes", "(I)Z"⟩
abbrev cX8_want : ByteArray := prog_10_method_16_code
def yX8_want : MethodName := ⟨RX8, "want", "(I)Z"⟩
abbrev cX8_deeper : ByteArray := prog_10_method_17_code
def yX8_deeper : MethodName := ⟨RX8, "deeper", "()Z"⟩
abbrev cX8_node : ByteArray := prog_10_method_18_code
def yX8_node : MethodName := ⟨RX8, "node", "(IIII)I"⟩
abbrev cX8_readX : ByteArray := prog_10_method_19_code
def yX8_readX : MethodName := ⟨RX8, "readX", "()Z"⟩
abbrev cX8_readSum : ByteArray := prog_10_method_20_code
def yX8_readSum : MethodName := ⟨RX8, "readSum", "()Z"⟩
abbrev cX8_readTerm : ByteArray := prog_10_method_21_code
def yX8_readTerm : MethodName := ⟨RX8, "readTerm", "()Z"⟩
abbrev cX8_readFactor : ByteArray := prog_10_method_22_code
def yX8_readFactor : MethodName := ⟨RX8, "readFactor", "()Z"⟩
abbrev cX8_readRegister : ByteArray := prog_10_method_23_code
def yX8_readRegister : MethodName := ⟨RX8, "readRegister", "()Z"⟩
abbrev cX8_readNumber : ByteArray := prog_10_method_24_code
def yX8_readNumber : MethodName := ⟨RX8, "readNumber", "()Z"⟩
abbrev cX8_readList : ByteArray := prog_10_method_25_code
def yX8_readList : MethodName := ⟨RX8, "readList", "()Z"⟩
abbrev cX8_readStatement : ByteArray := prog_10_method_26_code
def yX8_readStatement : MethodName := ⟨RX8, "readStatement", "()Z"⟩
abbrev cX8_readTurn : ByteArray := prog_10_method_27_code
def yX8_readTurn : MethodName := ⟨RX8, "readTurn", "(Z)Z"⟩
abbrev cX8_program : ByteArray := prog_10_method_28_code
def yX8_program : MethodName := ⟨RX8, "program", "()I"⟩
abbrev cX8_fault : ByteArray := prog_10_method_29_code
def yX8_fault : MethodName := ⟨RX8, "fault", "()I"⟩
abbrev cX8_work : ByteArray := prog_10_method_30_code
def yX8_work : MethodName := ⟨RX8, "work", "(I)I"⟩
abbrev cX8_isCommand : ByteArray := prog_10_method_31_code
def yX8_isCommand : MethodName := ⟨RX8, "isCommand", "(I)Z"⟩
abbrev cX8_begins : ByteArray := prog_10_method_32_code
def yX8_begins : MethodName := ⟨RX8, "begins", "()V"⟩
abbrev cX8_append : ByteArray := prog_10_method_33_code
def yX8_append : MethodName := ⟨RX8, "append", "(III)V"⟩
abbrev cX8_goOn : ByteArray := prog_10_method_34_code
def yX8_goOn : MethodName := ⟨RX8, "goOn", "()V"⟩
abbrev cX8_step : ByteArray := prog_10_method_35_code
def yX8_step : MethodName := ⟨RX8, "step", "()Z"⟩
abbrev cX8_command : ByteArray := prog_10_method_36_code
def yX8_command : MethodName := ⟨RX8, "command", "(III)I"⟩
abbrev cX8_isDone : ByteArray := prog_10_method_37_code
def yX8_isDone : MethodName := ⟨RX8, "isDone", "(I)Z"⟩
abbrev cX8_hasSignal : ByteArray := prog_10_method_38_code
def yX8_hasSignal : MethodName := ⟨RX8, "hasSignal", "()Z"⟩
abbrev cX8_isReady : ByteArray := prog_10_method_39_code
def yX8_isReady : MethodName := ⟨RX8, "isReady", "(I)Z"⟩
abbrev cX8_list : ByteArray := prog_10_method_40_code
def yX8_list : MethodName := ⟨RX8, "list", "(I)V"⟩
abbrev cX8_turn : ByteArray := prog_10_method_41_code
def yX8_turn : MethodName := ⟨RX8, "turn", "(I)V"⟩
abbrev cX8_statement : ByteArray := prog_10_method_42_code
def yX8_statement : MethodName := ⟨RX8, "statement", "(I)V"⟩
abbrev cX8_patch : ByteArray := prog_10_method_43_code
def yX8_patch : MethodName := ⟨RX8, "patch", "(I)V"⟩
abbrev cX8_waits : ByteArray := prog_10_method_44_code
def yX8_waits : MethodName := ⟨RX8, "waits", "(I)V"⟩
abbrev cX8_stop : ByteArray := prog_10_method_45_code
def yX8_stop : MethodName := ⟨RX8, "stop", "(I)V"⟩
abbrev cX8_run : ByteArray := prog_10_method_46_code
def yX8_run : MethodName := ⟨RX8, "run", "()V"⟩
abbrev cX8_decide : ByteArray := prog_10_method_47_code
def yX8_decide : MethodName := ⟨RX8, "decide", "(I)I"⟩
abbrev cX8_refused : ByteArray := prog_10_method_48_code
def yX8_refused : MethodName := ⟨RX8, "refused", "()I"⟩
abbrev cX8_differs : ByteArray := prog_10_method_49_code
def yX8_differs : MethodName := ⟨RX8, "differs", "()I"⟩
abbrev cX8_isGone : ByteArray := prog_10_method_50_code
def yX8_isGone : MethodName := ⟨RX8, "isGone", "(I)Z"⟩
abbrev cX8_happen : ByteArray := prog_10_method_51_code
def yX8_happen : MethodName := ⟨RX8, "happen", "(III)Z"⟩
abbrev cX8_crash : ByteArray := prog_10_method_52_code
def yX8_crash : MethodName := ⟨RX8, "crash", "()V"⟩
abbrev cX8_clear : ByteArray := prog_10_method_53_code
def yX8_clear : MethodName := ⟨RX8, "clear", "()V"⟩
abbrev cX8_event : ByteArray := prog_10_method_54_code
def yX8_event : MethodName := ⟨RX8, "event", "(II)I"⟩
abbrev cX8_register : ByteArray := prog_10_method_55_code
def yX8_register : MethodName := ⟨RX8, "register", "(I)I"⟩
abbrev cX8_total : ByteArray := prog_10_method_56_code
def yX8_total : MethodName := ⟨RX8, "total", "(I)I"⟩
def RL : String := "ReplayDeskLaw"
abbrev cL_program : ByteArray := method_3_code
def yL_program : MethodName := ⟨RL, "program", "(LReplayDesk;[J)I"⟩
abbrev cL_decide : ByteArray := method_4_code
def yL_decide : MethodName := ⟨RL, "decide", "(LReplayDesk;I[J)I"⟩
abbrev cL_event : ByteArray := method_5_code
def yL_event : MethodName := ⟨RL, "event", "(LReplayDesk;II[J)I"⟩
abbrev cL_register : ByteArray := method_6_code
def yL_register : MethodName := ⟨RL, "register", "(LReplayDesk;I[J)I"⟩
abbrev cL_law : ByteArray := code
def yL_law : MethodName := ⟨RL, "law", "([I)Z"⟩
abbrev vwCl : List vw_C := [(RX0, TX0, 7), (RX1, TX1, 10), (RX2, TX2, 2), (RX3, TX3, 6), (RX4, TX4, 13), (RX5, TX5, 2), (RX6, TX6, 5), (RX7, TX7, 13), (RX8, TX8, 45)]
end
section
-- the image of the program: cells, links, codes (printed by wip/gen.py)
abbrev zV : Type := Int32 ⊕ (Int64 ⊕ Nat)
abbrev zS : Type := Nat → Nat → Int32
abbrev zR : Type := Nat × Int32 × zS
abbrev zO : Type := Nat × Nat × Nat × Nat × Nat × Int32 × List (Int32 × Nat)
abbrev zI : Type := (Nat × List (Option Nat)) ⊕ (Nat × Nat)
/-- cells: an object by its class and its fields (none: a number, some c: the cell c), an array by its type (0 int, 1 char) and its length -/
def zIMG : List zI := [.inl (7, [some 1, some 3, some 7, some 15, some 23, some 24, some 30, some 32, some 34, none, none, none, none]), .inl (5, [some 2, none]), .inr (1, 400), .inl (6, [some 4, some 5, some 6, none, none]), .inr (0, 401), .inr (0, 401), .inr (0, 401), .inl (1, [some 8, some 9, some 10, some 11, some 12, some 13, some 14, none, none, none]), .inr (0, 200), .inr (0, 200), .inr (0, 200), .inr (0, 200), .inr (0, 200), .inr (0, 400), .inr (0, 400), .inl (1, [some 16, some 17, some 18, some 19, some 20, some 21, some 22, none, none, none]), .inr (0, 200), .inr (0, 200), .inr (0, 200), .inr (0, 200), .inr (0, 200), .inr (0, 400), .inr (0, 400), .inl (2, [some 3, some 7]), .inl (0, [some 25, some 26, some 27, some 28, some 29, none, none]), .inr (0, 200), .inr (0, 200), .inr (0, 200), .inr (0, 200), .inr (0, 200), .inl (3, [some 31, none, none, none, none, none]), .inr (0, 8), .inl (3, [some 33, none, none, none, none, none]), .inr (0, 8), .inl (4, [some 15, some 24, some 30, some 35, some 37, none, none, none, none, none, none, none, none]), .inl (3, [some 36, none, none, none, none, none]), .inr (0, 8), .inr (0, 34), .inl (8, [none, some 39, none, none, none, some 40, some 41, some 42, none, none, none, none, some 43, some 44, none, some 45, some 46, some 47, some 48, some 49, none, some 50, some 51, some 52, some 53, none, none, none, none, none, some 54, none, none, none, none, none, none, none, none, none, none, none, none, none, none]), .inr (0, 400), .inr (0, 402), .inr (0, 402), .inr (0, 402), .inr (0, 2), .inr (0, 2), .inr (0, 1600), .inr (0, 1600), .inr (0, 1600), .inr (0, 1600), .inr (0, 1600), .inr (0, 201), .inr (0, 201), .inr (0, 201), .inr (0, 8), .inr (0, 8)]
/-- field links: class that reads, its entry, class of the field, its slot, 1 where by a nest mate -/
def zFLT : List (String × Nat × Nat × Nat × Nat) := [(RX0, 27, 0, 5, 0), (RX0, 31, 0, 6, 0), (RX0, 9, 0, 0, 0), (RX0, 15, 0, 1, 0), (RX0, 18, 0, 2, 0), (RX0, 21, 0, 3, 0), (RX0, 24, 0, 4, 0), (RX1, 33, 1, 7, 0), (RX1, 37, 1, 8, 0), (RX1, 40, 1, 9, 0), (RX1, 9, 1, 0, 0), (RX1, 15, 1, 1, 0), (RX1, 18, 1, 2, 0), (RX1, 21, 1, 3, 0), (RX1, 24, 1, 4, 0), (RX1, 27, 1, 5, 0), (RX1, 30, 1, 6, 0), (RX2, 15, 2, 1, 0), (RX2, 9, 2, 0, 0), (RX3, 9, 3, 0, 0), (RX3, 15, 3, 1, 0), (RX3, 19, 3, 2, 0), (RX3, 22, 3, 3, 0), (RX3, 25, 3, 4, 0), (RX3, 28, 3, 5, 0), (RX4, 56, 4, 2, 0), (RX4, 59, 3, 4, 1), (RX4, 52, 4, 1, 0), (RX4, 42, 4, 11, 0), (RX4, 82, 3, 5, 1), (RX4, 12, 4, 3, 0), (RX4, 26, 4, 6, 0), (RX4, 29, 4, 7, 0), (RX4, 32, 4, 8, 0), (RX4, 35, 4, 9, 0), (RX4, 39, 4, 10, 0), (RX4, 97, 3, 3, 1), (RX4, 48, 4, 0, 0), (RX4, 100, 3, 1, 1), (RX4, 45, 4, 12, 0), (RX4, 168, 3, 2, 1), (RX4, 22, 4, 5, 0), (RX4, 18, 4, 4, 0), (RX5, 15, 5, 1, 0), (RX5, 9, 5, 0, 0), (RX6, 21, 6, 3, 0), (RX6, 25, 6, 4, 0), (RX6, 9, 6, 0, 0), (RX6, 15, 6, 1, 0), (RX6, 18, 6, 2, 0), (RX7, 12, 7, 0, 0), (RX7, 19, 7, 1, 0), (RX7, 38, 7, 4, 0), (RX7, 72, 7, 10, 0), (RX7, 30, 7, 3, 0), (RX7, 26, 7, 2, 0), (RX7, 68, 7, 9, 0), (RX7, 52, 7, 6, 0), (RX7, 45, 7, 5, 0), (RX7, 64, 7, 8, 0), (RX7, 76, 7, 11, 0), (RX7, 120, 4, 12, 1), (RX7, 79, 7, 12, 0), (RX7, 56, 7, 7, 0), (RX7, 167, 3, 5, 1), (RX7, 170, 3, 3, 1), (RX7, 173, 3, 2, 1), (RX8, 65, 8, 0, 0), (RX8, 68, 8, 2, 0), (RX8, 7, 8, 1, 0), (RX8, 17, 8, 5, 0), (RX8, 73, 8, 4, 0), (RX8, 20, 8, 6, 0), (RX8, 23, 8, 7, 0), (RX8, 102, 8, 8, 0), (RX8, 13, 8, 3, 0), (RX8, 115, 8, 9, 0), (RX8, 118, 8, 10, 0), (RX8, 29, 8, 13, 0), (RX8, 32, 8, 15, 0), (RX8, 35, 8, 16, 0), (RX8, 38, 8, 17, 0), (RX8, 41, 8, 18, 0), (RX8, 44, 8, 19, 0), (RX8, 124, 8, 41, 0), (RX8, 145, 8, 42, 0), (RX8, 148, 8, 43, 0), (RX8, 154, 8, 14, 0), (RX8, 26, 8, 12, 0), (RX8, 176, 8, 11, 0), (RX8, 62, 8, 30, 0), (RX8, 183, 8, 20, 0), (RX8, 47, 8, 21, 0), (RX8, 186, 8, 31, 0), (RX8, 189, 8, 34, 0), (RX8, 192, 8, 32, 0), (RX8, 195, 8, 35, 0), (RX8, 198, 8, 39, 0), (RX8, 50, 8, 22, 0), (RX8, 53, 8, 23, 0), (RX8, 204, 8, 33, 0), (RX8, 210, 8, 40, 0), (RX8, 213, 8, 36, 0), (RX8, 216, 8, 38, 0), (RX8, 222, 8, 44, 0), (RX8, 225, 8, 37, 0), (RX8, 59, 8, 29, 0), (RX8, 266, 8, 28, 0), (RX8, 56, 8, 24, 0), (RX8, 272, 8, 25, 0), (RX8, 275, 8, 26, 0), (RX8, 278, 8, 27, 0)]
/-- method links: class that calls, its entry, method, 1 where static, class of the method, how many arguments -/
def zMLT : List (String × Nat × Nat × Nat × Nat × Nat) := [(RX0, 34, 2, 0, 0, 1), (RX0, 38, 3, 0, 0, 1), (RX0, 42, 15, 0, 0, 3), (RX0, 46, 7, 0, 0, 3), (RX0, 49, 14, 0, 0, 1), (RX0, 53, 16, 0, 0, 2), (RX1, 49, 21, 0, 1, 2), (RX1, 53, 25, 0, 1, 2), (RX1, 57, 35, 0, 1, 1), (RX2, 19, 17, 0, 1, 0), (RX2, 24, 37, 0, 2, 1), (RX2, 28, 80, 0, 6, 0), (RX2, 34, 81, 0, 6, 0), (RX2, 37, 38, 1, 2, 1), (RX2, 40, 39, 0, 2, 1), (RX2, 43, 40, 0, 2, 1), (RX2, 46, 41, 0, 2, 1), (RX2, 49, 43, 0, 2, 1), (RX2, 52, 84, 0, 6, 1), (RX2, 55, 85, 0, 6, 1), (RX2, 58, 42, 0, 2, 1), (RX2, 61, 21, 0, 1, 2), (RX2, 65, 83, 0, 6, 0), (RX2, 68, 47, 0, 2, 1), (RX2, 71, 22, 0, 1, 1), (RX2, 75, 19, 0, 1, 0), (RX2, 78, 25, 0, 1, 2), (RX2, 82, 82, 0, 6, 0), (RX2, 85, 24, 0, 1, 2), (RX2, 88, 44, 0, 2, 3), (RX2, 92, 45, 0, 2, 2), (RX2, 96, 46, 0, 2, 1), (RX2, 99, 26, 0, 1, 2), (RX2, 102, 48, 0, 2, 1), (RX2, 105, 23, 0, 1, 2), (RX2, 108, 49, 0, 2, 1), (RX2, 111, 50, 0, 2, 1), (RX4, 62, 1, 0, 0, 0), (RX4, 68, 3, 0, 0, 1), (RX4, 72, 10, 0, 0, 1), (RX4, 75, 57, 0, 4, 3), (RX4, 79, 51, 0, 3, 0), (RX4, 85, 7, 0, 0, 3), (RX4, 89, 52, 0, 3, 1), (RX4, 93, 9, 0, 0, 1), (RX4, 103, 27, 0, 1, 1), (RX4, 108, 29, 0, 1, 1), (RX4, 111, 58, 0, 4, 2), (RX4, 115, 64, 0, 4, 0), (RX4, 118, 69, 0, 4, 0), (RX4, 121, 59, 0, 4, 1), (RX4, 124, 60, 0, 4, 3), (RX4, 128, 53, 0, 3, 1), (RX4, 131, 65, 0, 4, 1), (RX4, 134, 30, 0, 1, 1), (RX4, 137, 66, 0, 4, 2), (RX4, 140, 68, 0, 4, 1), (RX4, 143, 67, 0, 4, 0), (RX4, 146, 5, 0, 0, 1), (RX4, 149, 62, 0, 4, 1), (RX4, 152, 61, 0, 4, 1), (RX4, 155, 28, 0, 1, 1), (RX4, 158, 54, 0, 3, 2), (RX4, 161, 63, 0, 4, 3), (RX4, 164, 11, 0, 0, 4), (RX4, 171, 13, 0, 0, 2), (RX4, 175, 12, 0, 0, 2), (RX4, 177, 32, 0, 1, 1), (RX4, 180, 31, 0, 1, 1), (RX4, 183, 33, 0, 1, 1), (RX4, 186, 34, 0, 1, 1), (RX4, 189, 70, 0, 4, 2), (RX4, 192, 73, 0, 4, 0), (RX4, 195, 72, 0, 4, 1), (RX4, 198, 71, 1, 4, 3), (RX5, 19, 78, 1, 5, 2), (RX6, 28, 76, 0, 5, 0), (RX6, 34, 90, 1, 6, 2), (RX6, 38, 87, 0, 6, 2), (RX6, 42, 86, 0, 6, 3), (RX6, 46, 80, 0, 6, 0), (RX6, 49, 83, 0, 6, 0), (RX6, 52, 82, 0, 6, 0), (RX6, 55, 77, 0, 5, 1), (RX6, 59, 91, 1, 6, 1), (RX6, 63, 88, 0, 6, 2), (RX6, 66, 92, 1, 6, 1), (RX6, 69, 89, 0, 6, 2), (RX6, 79, 93, 1, 6, 3), (RX6, 85, 94, 1, 6, 4), (RX7, 82, 74, 0, 5, 2), (RX7, 86, 79, 0, 6, 1), (RX7, 90, 75, 0, 5, 0), (RX7, 93, 36, 0, 2, 0), (RX7, 104, 18, 0, 1, 1), (RX7, 108, 51, 0, 3, 0), (RX7, 111, 20, 0, 1, 0), (RX7, 114, 1, 0, 0, 0), (RX7, 117, 55, 0, 4, 0), (RX7, 123, 56, 0, 4, 1), (RX7, 132, 52, 0, 3, 1), (RX7, 135, 8, 0, 0, 3), (RX7, 139, 0, 0, 0, 0), (RX7, 140, 2, 0, 0, 1), (RX7, 149, 3, 0, 0, 1), (RX7, 152, 4, 0, 0, 1), (RX7, 155, 5, 0, 0, 1), (RX7, 160, 53, 0, 3, 1), (RX7, 163, 6, 0, 0, 2), (RX8, 76, 115, 1, 8, 4), (RX8, 80, 111, 1, 8, 1), (RX8, 84, 110, 0, 8, 1), (RX8, 88, 114, 0, 8, 3), (RX8, 92, 112, 1, 8, 1), (RX8, 95, 116, 0, 8, 2), (RX8, 99, 113, 1, 8, 1), (RX8, 105, 119, 0, 8, 1), (RX8, 108, 120, 0, 8, 1), (RX8, 111, 118, 0, 8, 0), (RX8, 121, 125, 0, 8, 0), (RX8, 127, 123, 0, 8, 4), (RX8, 130, 126, 0, 8, 0), (RX8, 133, 127, 0, 8, 0), (RX8, 136, 122, 0, 8, 0), (RX8, 139, 124, 0, 8, 0), (RX8, 142, 121, 0, 8, 1), (RX8, 151, 131, 0, 8, 0), (RX8, 157, 132, 0, 8, 1), (RX8, 161, 128, 0, 8, 0), (RX8, 164, 129, 0, 8, 0), (RX8, 167, 130, 0, 8, 0), (RX8, 170, 117, 0, 8, 0), (RX8, 173, 108, 0, 8, 1), (RX8, 180, 135, 0, 8, 1), (RX8, 201, 138, 0, 8, 3), (RX8, 207, 136, 0, 8, 1), (RX8, 219, 137, 0, 8, 0), (RX8, 228, 142, 0, 8, 1), (RX8, 231, 143, 0, 8, 0), (RX8, 234, 146, 0, 8, 1), (RX8, 238, 140, 0, 8, 0), (RX8, 241, 147, 0, 8, 1), (RX8, 244, 145, 0, 8, 1), (RX8, 247, 150, 0, 8, 1), (RX8, 250, 141, 0, 8, 3), (RX8, 254, 148, 0, 8, 1), (RX8, 257, 149, 0, 8, 1), (RX8, 260, 144, 0, 8, 1), (RX8, 263, 139, 0, 8, 0), (RX8, 269, 151, 0, 8, 0), (RX8, 281, 155, 0, 8, 1)]
def zc_X0_wipe : List (Nat × zO) := [(0, (2, 1, 0, 0, 0, 0, [])), (1, (0, 2, 0, 0, 0, 0, [])), (2, (15, 5, 0, 5, 0, 0, [])), (5, (2, 6, 0, 0, 0, 0, [])), (6, (0, 7, 0, 0, 0, 0, [])), (7, (15, 10, 0, 6, 1, 0, [])), (10, (20, 0, 0, 0, 0, 0, []))]
def zu_X0_wipe : List (Nat × List Nat) := [(0, [0])]
def zc_X0_size : List (Nat × zO) := [(0, (2, 1, 0, 0, 0, 0, [])), (1, (14, 4, 0, 5, 0, 0, [])), (4, (19, 0, 0, 0, 0, 0, []))]
def zu_X0_size : List (Nat × List Nat) := [(0, [0])]
def zc_X0_holds : List (Nat × zO) := [(0, (1, 1, 1, 0, 0, 0, [])), (1, (33, 4, 16, 0, 0, 0, [])), (4, (1, 5, 1, 0, 0, 0, [])), (5, (2, 6, 0, 0, 0, 0, [])), (6, (14, 9, 0, 5, 0, 0, [])), (9, (36, 16, 12, 0, 0, 0, [])), (12, (0, 13, 0, 0, 0, 1, [])), (13, (12, 0, 17, 0, 0, 0, [])), (16, (0, 17, 0, 0, 0, 0, [])), (17, (19, 0, 0, 1, 0, 0, []))]
def zu_X0_holds : List (Nat × List Nat) := [(0, [0, 1])]
def zc_X0_kindAt : List (Nat × zO) := [(0, (2, 1, 0, 0, 0, 0, [])), (1, (1, 2, 1, 0, 0, 0, [])), (2, (18, 5, 2, 2, 0, 0, [(0, 0)])), (5, (32, 8, 17, 0, 0, 0, [])), (8, (2, 9, 0, 0, 0, 0, [])), (9, (14, 12, 0, 0, 2, 0, [])), (12, (1, 13, 1, 0, 0, 0, [])), (13, (16, 14, 0, 0, 0, 0, [])), (14, (12, 0, 18, 0, 0, 0, [])), (17, (0, 18, 0, 0, 0, (-1), [])), (18, (19, 0, 0, 0, 0, 0, []))]
def zu_X0_kindAt : List (Nat × List Nat) := [(0, [0, 1])]
def zc_X0_refAt : List (Nat × zO) := [(0, (2, 1, 0, 0, 0, 0, [])), (1, (1, 2, 1, 0, 0, 0, [])), (2, (18, 5, 2, 2, 0, 0, [(0, 0)])), (5, (32, 8, 17, 0, 0, 0, [])), (8, (2, 9, 0, 0, 0, 0, [])), (9, (14, 12, 0, 1, 3, 0, [])), (12, (1, 13, 1, 0, 0, 0, [])), (13, (16, 14, 0, 0, 0, 0, [])), (14, (12, 0, 18, 0, 0, 0, [])), (17, (0, 18, 0, 0, 0, 0, [])), (18, (19, 0, 0, 0, 0, 0, []))]
def zu_X0_refAt : List (Nat × List Nat) := [(0, [0, 1])]
def zc_X0_valueAt : List (Nat × zO) := [(0, (2, 1, 0, 0, 0, 0, [])), (1, (1, 2, 1, 0, 0, 0, [])), (2, (18, 5, 2, 2, 0, 0, [(0, 0)])), (5, (32, 8, 17, 0, 0, 0, [])), (8, (2, 9, 0, 0, 0, 0, [])), (9, (14, 12, 0, 2, 4, 0, [])), (12, (1, 13, 1, 0, 0, 0, [])), (13, (16, 14, 0, 0, 0, 0, [])), (14, (12, 0, 18, 0, 0, 0, [])), (17, (0, 18, 0, 0, 0, 0, [])), (18, (19, 0, 0, 0, 0, 0, []))]
def zu_X0_valueAt : List (Nat × List Nat) := [(0, [0, 1])]
def zc_X0_count : List (Nat × zO) := [(0, (0, 1, 0, 0, 0, 0, [])), (1, (4, 2, 3, 0, 0, 0, [])), (2, (0, 3, 0, 0, 0, 0, [])), (3, (4, 10005, 4, 0, 0, 0, [])), (5, (1, 7, 4, 0, 0, 0, [])), (7, (2, 8, 0, 0, 0, 0, [])), (8, (14, 11, 0, 5, 0, 0, [])), (11, (36, 43, 14, 0, 0, 0, [])), (14, (2, 15, 0, 0, 0, 0, [])), (15, (1, 17, 4, 0, 0, 0, [])), (17, (18, 20, 3, 2, 1, 0, [(0, 0)])), (20, (1, 21, 1, 0, 0, 0, [])), (21, (36, 24, 37, 0, 0, 0, [])), (24, (2, 25, 0, 0, 0, 0, [])), (25, (1, 27, 4, 0, 0, 0, [])), (27, (18, 30, 3, 2, 1, 0, [(0, 0)])), (30, (1, 31, 2, 0, 0, 0, [])), (31, (37, 34, 37, 0, 0, 0, [])), (34, (6, 37, 3, 0, 0, 1, [])), (37, (6, 40, 4, 0, 0, 1, [])), (40, (12, 0, 10005, 0, 0, 0, [])), (43, (1, 44, 3, 0, 0, 0, [])), (44, (19, 0, 0, 0, 0, 0, []))]
def zu_X0_count : List (Nat × List Nat) := [(0, [0, 1, 2]), (5, [0, 1, 2, 3, 4])]
def zc_X0_add : List (Nat × zO) := [(0, (2, 1, 0, 0, 0, 0, [])), (1, (14, 4, 0, 5, 0, 0, [])), (4, (0, 7, 0, 0, 0, 200, [])), (7, (36, 10, 12, 0, 0, 0, [])), (10, (0, 11, 0, 0, 0, 0, [])), (11, (19, 0, 0, 1, 0, 0, [])), (12, (2, 13, 0, 0, 0, 0, [])), (13, (14, 16, 0, 0, 2, 0, [])), (16, (2, 17, 0, 0, 0, 0, [])), (17, (14, 20, 0, 5, 0, 0, [])), (20, (1, 21, 1, 0, 0, 0, [])), (21, (17, 22, 0, 0, 0, 0, [])), (22, (2, 23, 0, 0, 0, 0, [])), (23, (14, 26, 0, 1, 3, 0, [])), (26, (2, 27, 0, 0, 0, 0, [])), (27, (14, 30, 0, 5, 0, 0, [])), (30, (1, 31, 2, 0, 0, 0, [])), (31, (17, 32, 0, 0, 0, 0, [])), (32, (2, 33, 0, 0, 0, 0, [])), (33, (14, 36, 0, 2, 4, 0, [])), (36, (2, 37, 0, 0, 0, 0, [])), (37, (14, 40, 0, 5, 0, 0, [])), (40, (1, 41, 3, 0, 0, 0, [])), (41, (17, 42, 0, 0, 0, 0, [])), (42, (2, 43, 0, 0, 0, 0, [])), (43, (14, 46, 0, 3, 5, 0, [])), (46, (2, 47, 0, 0, 0, 0, [])), (47, (14, 50, 0, 5, 0, 0, [])), (50, (0, 51, 0, 0, 0, (-1), [])), (51, (17, 52, 0, 0, 0, 0, [])), (52, (2, 53, 0, 0, 0, 0, [])), (53, (21, 54, 0, 0, 0, 0, [])), (54, (14, 57, 0, 5, 0, 0, [])), (57, (0, 58, 0, 0, 0, 1, [])), (58, (7, 59, 0, 0, 0, 0, [])), (59, (15, 62, 0, 5, 0, 0, [])), (62, (0, 63, 0, 0, 0, 1, [])), (63, (19, 0, 0, 1, 0, 0, []))]
def zu_X0_add : List (Nat × List Nat) := [(0, [0, 1, 2, 3])]
def zc_X0_addOfOthers : List (Nat × zO) := [(0, (2, 1, 0, 0, 0, 0, [])), (1, (14, 4, 0, 5, 0, 0, [])), (4, (4, 6, 4, 0, 0, 0, [])), (6, (2, 7, 0, 0, 0, 0, [])), (7, (1, 8, 1, 0, 0, 0, [])), (8, (1, 9, 2, 0, 0, 0, [])), (9, (1, 10, 3, 0, 0, 0, [])), (10, (18, 13, 15, 4, 2, 0, [(0, 0)])), (13, (32, 16, 26, 0, 0, 0, [])), (16, (2, 17, 0, 0, 0, 0, [])), (17, (1, 18, 1, 0, 0, 0, [])), (18, (1, 19, 2, 0, 0, 0, [])), (19, (1, 20, 3, 0, 0, 0, [])), (20, (18, 23, 7, 4, 3, 0, [(0, 0)])), (23, (32, 28, 26, 0, 0, 0, [])), (26, (0, 27, 0, 0, 0, 0, [])), (27, (19, 0, 0, 1, 0, 0, [])), (28, (1, 29, 1, 0, 0, 0, [])), (29, (0, 31, 0, 0, 0, 8, [])), (31, (35, 43, 34, 0, 0, 0, [])), (34, (2, 35, 0, 0, 0, 0, [])), (35, (1, 37, 4, 0, 0, 0, [])), (37, (30, 40, 14, 2, 4, 0, [(0, 0)])), (40, (12, 0, 59, 0, 0, 0, [])), (43, (2, 44, 0, 0, 0, 0, [])), (44, (1, 45, 2, 0, 0, 0, [])), (45, (18, 48, 2, 2, 0, 0, [(0, 0)])), (48, (32, 51, 59, 0, 0, 0, [])), (51, (2, 52, 0, 0, 0, 0, [])), (52, (14, 55, 0, 3, 5, 0, [])), (55, (1, 56, 2, 0, 0, 0, [])), (56, (1, 58, 4, 0, 0, 0, [])), (58, (17, 59, 0, 0, 0, 0, [])), (59, (0, 60, 0, 0, 0, 1, [])), (60, (19, 0, 0, 1, 0, 0, []))]
def zu_X0_addOfOthers : List (Nat × List Nat) := [(0, [0, 1, 2, 3])]
def zc_X0_dropDecision : List (Nat × zO) := [(0, (1, 1, 1, 0, 0, 0, [])), (1, (33, 4, 17, 0, 0, 0, [])), (4, (1, 5, 1, 0, 0, 0, [])), (5, (2, 6, 0, 0, 0, 0, [])), (6, (14, 9, 0, 5, 0, 0, [])), (9, (36, 17, 12, 0, 0, 0, [])), (12, (2, 13, 0, 0, 0, 0, [])), (13, (1, 14, 1, 0, 0, 0, [])), (14, (15, 17, 0, 5, 0, 0, [])), (17, (20, 0, 0, 0, 0, 0, []))]
def zu_X0_dropDecision : List (Nat × List Nat) := [(0, [0, 1])]
def zc_X0_decisionEnd : List (Nat × zO) := [(0, (1, 1, 1, 0, 0, 0, [])), (1, (0, 2, 0, 0, 0, 1, [])), (2, (7, 3, 0, 0, 0, 0, [])), (3, (4, 10004, 2, 0, 0, 0, [])), (4, (1, 5, 2, 0, 0, 0, [])), (5, (2, 6, 0, 0, 0, 0, [])), (6, (14, 9, 0, 5, 0, 0, [])), (9, (36, 36, 12, 0, 0, 0, [])), (12, (2, 13, 0, 0, 0, 0, [])), (13, (1, 14, 2, 0, 0, 0, [])), (14, (18, 17, 3, 2, 1, 0, [(0, 0)])), (17, (0, 18, 0, 0, 0, 1, [])), (18, (36, 21, 36, 0, 0, 0, [])), (21, (2, 22, 0, 0, 0, 0, [])), (22, (1, 23, 2, 0, 0, 0, [])), (23, (18, 26, 3, 2, 1, 0, [(0, 0)])), (26, (0, 27, 0, 0, 0, 4, [])), (27, (37, 30, 36, 0, 0, 0, [])), (30, (6, 33, 2, 0, 0, 1, [])), (33, (12, 0, 10004, 0, 0, 0, [])), (36, (1, 37, 2, 0, 0, 0, [])), (37, (19, 0, 0, 0, 0, 0, []))]
def zu_X0_decisionEnd : List (Nat × List Nat) := [(0, [0, 1]), (4, [0, 2])]
def zc_X0_isAt : List (Nat × zO) := [(0, (2, 1, 0, 0, 0, 0, [])), (1, (1, 2, 1, 0, 0, 0, [])), (2, (18, 5, 2, 2, 0, 0, [(0, 0)])), (5, (32, 8, 43, 0, 0, 0, [])), (8, (2, 9, 0, 0, 0, 0, [])), (9, (14, 12, 0, 0, 2, 0, [])), (12, (1, 13, 1, 0, 0, 0, [])), (13, (16, 14, 0, 0, 0, 0, [])), (14, (1, 15, 2, 0, 0, 0, [])), (15, (35, 43, 18, 0, 0, 0, [])), (18, (2, 19, 0, 0, 0, 0, [])), (19, (14, 22, 0, 1, 3, 0, [])), (22, (1, 23, 1, 0, 0, 0, [])), (23, (16, 24, 0, 0, 0, 0, [])), (24, (1, 25, 3, 0, 0, 0, [])), (25, (35, 43, 28, 0, 0, 0, [])), (28, (2, 29, 0, 0, 0, 0, [])), (29, (14, 32, 0, 2, 4, 0, [])), (32, (1, 33, 1, 0, 0, 0, [])), (33, (16, 34, 0, 0, 0, 0, [])), (34, (1, 36, 4, 0, 0, 0, [])), (36, (35, 43, 39, 0, 0, 0, [])), (39, (0, 40, 0, 0, 0, 1, [])), (40, (12, 0, 44, 0, 0, 0, [])), (43, (0, 44, 0, 0, 0, 0, [])), (44, (19, 0, 0, 1, 0, 0, []))]
def zu_X0_isAt : List (Nat × List Nat) := [(0, [0, 1, 2, 3, 4])]
def zc_X0_endOf : List (Nat × zO) := [(0, (2, 1, 0, 0, 0, 0, [])), (1, (1, 2, 1, 0, 0, 0, [])), (2, (18, 5, 2, 2, 0, 0, [(0, 0)])), (5, (32, 8, 27, 0, 0, 0, [])), (8, (2, 9, 0, 0, 0, 0, [])), (9, (14, 12, 0, 3, 5, 0, [])), (12, (1, 13, 1, 0, 0, 0, [])), (13, (16, 14, 0, 0, 0, 0, [])), (14, (1, 15, 2, 0, 0, 0, [])), (15, (36, 27, 18, 0, 0, 0, [])), (18, (2, 19, 0, 0, 0, 0, [])), (19, (14, 22, 0, 3, 5, 0, [])), (22, (1, 23, 1, 0, 0, 0, [])), (23, (16, 24, 0, 0, 0, 0, [])), (24, (12, 0, 28, 0, 0, 0, [])), (27, (0, 28, 0, 0, 0, (-1), [])), (28, (19, 0, 0, 0, 0, 0, []))]
def zu_X0_endOf : List (Nat × List Nat) := [(0, [0, 1, 2])]
def zc_X0_signal : List (Nat × zO) := [(0, (1, 1, 1, 0, 0, 0, [])), (1, (33, 4, 26, 0, 0, 0, [])), (4, (1, 5, 1, 0, 0, 0, [])), (5, (2, 6, 0, 0, 0, 0, [])), (6, (14, 9, 0, 6, 1, 0, [])), (9, (36, 26, 12, 0, 0, 0, [])), (12, (2, 13, 0, 0, 0, 0, [])), (13, (14, 16, 0, 4, 6, 0, [])), (16, (1, 17, 1, 0, 0, 0, [])), (17, (16, 18, 0, 0, 0, 0, [])), (18, (1, 19, 2, 0, 0, 0, [])), (19, (36, 26, 22, 0, 0, 0, [])), (22, (0, 23, 0, 0, 0, 1, [])), (23, (12, 0, 27, 0, 0, 0, [])), (26, (0, 27, 0, 0, 0, 0, [])), (27, (4, 28, 3, 0, 0, 0, [])), (28, (1, 29, 3, 0, 0, 0, [])), (29, (32, 32, 41, 0, 0, 0, [])), (32, (2, 33, 0, 0, 0, 0, [])), (33, (14, 36, 0, 4, 6, 0, [])), (36, (1, 37, 1, 0, 0, 0, [])), (37, (16, 38, 0, 0, 0, 0, [])), (38, (12, 0, 42, 0, 0, 0, [])), (41, (0, 42, 0, 0, 0, (-1), [])), (42, (19, 0, 0, 0, 0, 0, []))]
def zu_X0_signal : List (Nat × List Nat) := [(0, [0, 1, 2])]
def zc_X0_addSignal : List (Nat × zO) := [(0, (2, 1, 0, 0, 0, 0, [])), (1, (14, 4, 0, 6, 1, 0, [])), (4, (0, 7, 0, 0, 0, 200, [])), (7, (36, 30, 10, 0, 0, 0, [])), (10, (2, 11, 0, 0, 0, 0, [])), (11, (14, 14, 0, 4, 6, 0, [])), (14, (2, 15, 0, 0, 0, 0, [])), (15, (14, 18, 0, 6, 1, 0, [])), (18, (1, 19, 1, 0, 0, 0, [])), (19, (17, 20, 0, 0, 0, 0, [])), (20, (2, 21, 0, 0, 0, 0, [])), (21, (21, 22, 0, 0, 0, 0, [])), (22, (14, 25, 0, 6, 1, 0, [])), (25, (0, 26, 0, 0, 0, 1, [])), (26, (7, 27, 0, 0, 0, 0, [])), (27, (15, 30, 0, 6, 1, 0, [])), (30, (20, 0, 0, 0, 0, 0, []))]
def zu_X0_addSignal : List (Nat × List Nat) := [(0, [0, 1])]
def zc_X0_fits : List (Nat × zO) := [(0, (1, 1, 1, 0, 0, 0, [])), (1, (13, 0, 87, 0, 0, 0, [(5, 32), (6, 39), (7, 58), (8, 77)])), (32, (2, 33, 0, 0, 0, 0, [])), (33, (1, 34, 2, 0, 0, 0, [])), (34, (0, 35, 0, 0, 0, 1, [])), (35, (18, 38, 16, 3, 5, 0, [(0, 0)])), (38, (19, 0, 0, 1, 0, 0, [])), (39, (2, 40, 0, 0, 0, 0, [])), (40, (1, 41, 2, 0, 0, 0, [])), (41, (0, 42, 0, 0, 0, 1, [])), (42, (18, 45, 16, 3, 5, 0, [(0, 0)])), (45, (32, 48, 56, 0, 0, 0, [])), (48, (1, 49, 3, 0, 0, 0, [])), (49, (32, 56, 52, 0, 0, 0, [])), (52, (0, 53, 0, 0, 0, 1, [])), (53, (12, 0, 57, 0, 0, 0, [])), (56, (0, 57, 0, 0, 0, 0, [])), (57, (19, 0, 0, 1, 0, 0, [])), (58, (2, 59, 0, 0, 0, 0, [])), (59, (1, 60, 2, 0, 0, 0, [])), (60, (0, 61, 0, 0, 0, 2, [])), (61, (18, 64, 16, 3, 5, 0, [(0, 0)])), (64, (32, 67, 75, 0, 0, 0, [])), (67, (1, 68, 3, 0, 0, 0, [])), (68, (32, 75, 71, 0, 0, 0, [])), (71, (0, 72, 0, 0, 0, 1, [])), (72, (12, 0, 76, 0, 0, 0, [])), (75, (0, 76, 0, 0, 0, 0, [])), (76, (19, 0, 0, 1, 0, 0, [])), (77, (1, 78, 2, 0, 0, 0, [])), (78, (32, 85, 81, 0, 0, 0, [])), (81, (0, 82, 0, 0, 0, 1, [])), (82, (12, 0, 86, 0, 0, 0, [])), (85, (0, 86, 0, 0, 0, 0, [])), (86, (19, 0, 0, 1, 0, 0, [])), (87, (0, 88, 0, 0, 0, 0, [])), (88, (19, 0, 0, 1, 0, 0, []))]
def zu_X0_fits : List (Nat × List Nat) := [(0, [0, 1, 2, 3])]
def zc_X0_isOpen : List (Nat × zO) := [(0, (2, 1, 0, 0, 0, 0, [])), (1, (1, 2, 1, 0, 0, 0, [])), (2, (18, 5, 2, 2, 0, 0, [(0, 0)])), (5, (32, 8, 32, 0, 0, 0, [])), (8, (2, 9, 0, 0, 0, 0, [])), (9, (14, 12, 0, 0, 2, 0, [])), (12, (1, 13, 1, 0, 0, 0, [])), (13, (16, 14, 0, 0, 0, 0, [])), (14, (1, 15, 2, 0, 0, 0, [])), (15, (35, 32, 18, 0, 0, 0, [])), (18, (2, 19, 0, 0, 0, 0, [])), (19, (14, 22, 0, 3, 5, 0, [])), (22, (1, 23, 1, 0, 0, 0, [])), (23, (16, 24, 0, 0, 0, 0, [])), (24, (0, 25, 0, 0, 0, (-1), [])), (25, (35, 32, 28, 0, 0, 0, [])), (28, (0, 29, 0, 0, 0, 1, [])), (29, (12, 0, 33, 0, 0, 0, [])), (32, (0, 33, 0, 0, 0, 0, [])), (33, (19, 0, 0, 1, 0, 0, []))]
def zu_X0_isOpen : List (Nat × List Nat) := [(0, [0, 1, 2])]
def zc_X1_wipe : List (Nat × zO) := [(0, (2, 1, 0, 0, 0, 0, [])), (1, (0, 2, 0, 0, 0, 0, [])), (2, (15, 5, 1, 7, 7, 0, [])), (5, (2, 6, 0, 0, 0, 0, [])), (6, (0, 7, 0, 0, 0, 0, [])), (7, (15, 10, 1, 8, 8, 0, [])), (10, (2, 11, 0, 0, 0, 0, [])), (11, (0, 12, 0, 0, 0, 0, [])), (12, (15, 15, 1, 9, 9, 0, [])), (15, (20, 0, 0, 0, 0, 0, []))]
def zu_X1_wipe : List (Nat × List Nat) := [(0, [0])]
def zc_X1_copyFrom : List (Nat × zO) := [(0, (2, 1, 1, 0, 0, 0, [])), (1, (14, 4, 1, 0, 10, 0, [])), (4, (0, 5, 0, 0, 0, 0, [])), (5, (2, 6, 0, 0, 0, 0, [])), (6, (14, 9, 1, 0, 10, 0, [])), (9, (0, 10, 0, 0, 0, 0, [])), (10, (0, 13, 0, 0, 0, 200, [])), (13, (25, 16, 43, 0, 0, 0, [])), (16, (2, 17, 1, 0, 0, 0, [])), (17, (14, 20, 1, 1, 11, 0, [])), (20, (0, 21, 0, 0, 0, 0, [])), (21, (2, 22, 0, 0, 0, 0, [])), (22, (14, 25, 1, 1, 11, 0, [])), (25, (0, 26, 0, 0, 0, 0, [])), (26, (0, 29, 0, 0, 0, 200, [])), (29, (25, 32, 43, 0, 0, 0, [])), (32, (2, 33, 1, 0, 0, 0, [])), (33, (14, 36, 1, 2, 12, 0, [])), (36, (0, 37, 0, 0, 0, 0, [])), (37, (2, 38, 0, 0, 0, 0, [])), (38, (14, 41, 1, 2, 12, 0, [])), (41, (0, 42, 0, 0, 0, 0, [])), (42, (0, 45, 0, 0, 0, 200, [])), (45, (25, 48, 43, 0, 0, 0, [])), (48, (2, 49, 1, 0, 0, 0, [])), (49, (14, 52, 1, 3, 13, 0, [])), (52, (0, 53, 0, 0, 0, 0, [])), (53, (2, 54, 0, 0, 0, 0, [])), (54, (14, 57, 1, 3, 13, 0, [])), (57, (0, 58, 0, 0, 0, 0, [])), (58, (0, 61, 0, 0, 0, 200, [])), (61, (25, 64, 43, 0, 0, 0, [])), (64, (2, 65, 1, 0, 0, 0, [])), (65, (14, 68, 1, 4, 14, 0, [])), (68, (0, 69, 0, 0, 0, 0, [])), (69, (2, 70, 0, 0, 0, 0, [])), (70, (14, 73, 1, 4, 14, 0, [])), (73, (0, 74, 0, 0, 0, 0, [])), (74, (0, 77, 0, 0, 0, 200, [])), (77, (25, 80, 43, 0, 0, 0, [])), (80, (2, 81, 1, 0, 0, 0, [])), (81, (14, 84, 1, 5, 15, 0, [])), (84, (0, 85, 0, 0, 0, 0, [])), (85, (2, 86, 0, 0, 0, 0, [])), (86, (14, 89, 1, 5, 15, 0, [])), (89, (0, 90, 0, 0, 0, 0, [])), (90, (0, 93, 0, 0, 0, 400, [])), (93, (25, 96, 43, 0, 0, 0, [])), (96, (2, 97, 1, 0, 0, 0, [])), (97, (14, 100, 1, 6, 16, 0, [])), (100, (0, 101, 0, 0, 0, 0, [])), (101, (2, 102, 0, 0, 0, 0, [])), (102, (14, 105, 1, 6, 16, 0, [])), (105, (0, 106, 0, 0, 0, 0, [])), (106, (0, 109, 0, 0, 0, 400, [])), (109, (25, 112, 43, 0, 0, 0, [])), (112, (2, 113, 0, 0, 0, 0, [])), (113, (2, 114, 1, 0, 0, 0, [])), (114, (14, 117, 1, 7, 7, 0, [])), (117, (15, 120, 1, 7, 7, 0, [])), (120, (2, 121, 0, 0, 0, 0, [])), (121, (2, 122, 1, 0, 0, 0, [])), (122, (14, 125, 1, 8, 8, 0, [])), (125, (15, 128, 1, 8, 8, 0, [])), (128, (2, 129, 0, 0, 0, 0, [])), (129, (2, 130, 1, 0, 0, 0, [])), (130, (14, 133, 1, 9, 9, 0, [])), (133, (15, 136, 1, 9, 9, 0, [])), (136, (20, 0, 0, 0, 0, 0, []))]
def zu_X1_copyFrom : List (Nat × List Nat) := [(0, [0, 1])]
def zc_X1_size : List (Nat × zO) := [(0, (2, 1, 0, 0, 0, 0, [])), (1, (14, 4, 1, 7, 7, 0, [])), (4, (19, 0, 0, 0, 0, 0, []))]
def zu_X1_size : List (Nat × List Nat) := [(0, [0])]
def zc_X1_statementCount : List (Nat × zO) := [(0, (2, 1, 0, 0, 0, 0, [])), (1, (14, 4, 1, 7, 7, 0, [])), (4, (2, 5, 0, 0, 0, 0, [])), (5, (14, 8, 1, 9, 9, 0, [])), (8, (7, 9, 0, 1, 0, 0, [])), (9, (19, 0, 0, 0, 0, 0, []))]
def zu_X1_statementCount : List (Nat × List Nat) := [(0, [0])]
def zc_X1_add : List (Nat × zO) := [(0, (2, 1, 0, 0, 0, 0, [])), (1, (14, 4, 1, 7, 7, 0, [])), (4, (4, 5, 3, 0, 0, 0, [])), (5, (1, 6, 3, 0, 0, 0, [])), (6, (0, 9, 0, 0, 0, 200, [])), (9, (36, 60, 12, 0, 0, 0, [])), (12, (2, 13, 0, 0, 0, 0, [])), (13, (14, 16, 1, 0, 10, 0, [])), (16, (1, 17, 3, 0, 0, 0, [])), (17, (1, 18, 1, 0, 0, 0, [])), (18, (17, 19, 0, 0, 0, 0, [])), (19, (2, 20, 0, 0, 0, 0, [])), (20, (14, 23, 1, 1, 11, 0, [])), (23, (1, 24, 3, 0, 0, 0, [])), (24, (1, 25, 2, 0, 0, 0, [])), (25, (17, 26, 0, 0, 0, 0, [])), (26, (2, 27, 0, 0, 0, 0, [])), (27, (14, 30, 1, 2, 12, 0, [])), (30, (1, 31, 3, 0, 0, 0, [])), (31, (0, 32, 0, 0, 0, 0, [])), (32, (17, 33, 0, 0, 0, 0, [])), (33, (2, 34, 0, 0, 0, 0, [])), (34, (14, 37, 1, 3, 13, 0, [])), (37, (1, 38, 3, 0, 0, 0, [])), (38, (0, 39, 0, 0, 0, 0, [])), (39, (17, 40, 0, 0, 0, 0, [])), (40, (2, 41, 0, 0, 0, 0, [])), (41, (14, 44, 1, 4, 14, 0, [])), (44, (1, 45, 3, 0, 0, 0, [])), (45, (2, 46, 0, 0, 0, 0, [])), (46, (14, 49, 1, 8, 8, 0, [])), (49, (17, 50, 0, 0, 0, 0, [])), (50, (2, 51, 0, 0, 0, 0, [])), (51, (21, 52, 0, 0, 0, 0, [])), (52, (14, 55, 1, 7, 7, 0, [])), (55, (0, 56, 0, 0, 0, 1, [])), (56, (7, 57, 0, 0, 0, 0, [])), (57, (15, 60, 1, 7, 7, 0, [])), (60, (1, 61, 3, 0, 0, 0, [])), (61, (19, 0, 0, 0, 0, 0, []))]
def zu_X1_add : List (Nat × List Nat) := [(0, [0, 1, 2])]
def zc_X1_addJump : List (Nat × zO) := [(0, (2, 1, 0, 0, 0, 0, [])), (1, (0, 3, 0, 0, 0, 12, [])), (3, (0, 4, 0, 0, 0, 0, [])), (4, (18, 7, 21, 3, 6, 0, [(0, 1)])), (7, (4, 8, 2, 0, 0, 0, [])), (8, (2, 9, 0, 0, 0, 0, [])), (9, (1, 10, 2, 0, 0, 0, [])), (10, (1, 11, 1, 0, 0, 0, [])), (11, (30, 14, 25, 3, 7, 0, [(0, 1)])), (14, (2, 15, 0, 0, 0, 0, [])), (15, (21, 16, 0, 0, 0, 0, [])), (16, (14, 19, 1, 9, 9, 0, [])), (19, (0, 20, 0, 0, 0, 1, [])), (20, (7, 21, 0, 0, 0, 0, [])), (21, (15, 24, 1, 9, 9, 0, [])), (24, (1, 25, 2, 0, 0, 0, [])), (25, (19, 0, 0, 0, 0, 0, []))]
def zu_X1_addJump : List (Nat × List Nat) := [(0, [0, 1])]
def zc_X1_addItem : List (Nat × zO) := [(0, (2, 1, 0, 0, 0, 0, [])), (1, (14, 4, 1, 8, 8, 0, [])), (4, (0, 7, 0, 0, 0, 400, [])), (7, (36, 40, 10, 0, 0, 0, [])), (10, (2, 11, 0, 0, 0, 0, [])), (11, (14, 14, 1, 5, 15, 0, [])), (14, (2, 15, 0, 0, 0, 0, [])), (15, (14, 18, 1, 8, 8, 0, [])), (18, (1, 19, 1, 0, 0, 0, [])), (19, (17, 20, 0, 0, 0, 0, [])), (20, (2, 21, 0, 0, 0, 0, [])), (21, (14, 24, 1, 6, 16, 0, [])), (24, (2, 25, 0, 0, 0, 0, [])), (25, (14, 28, 1, 8, 8, 0, [])), (28, (1, 29, 2, 0, 0, 0, [])), (29, (17, 30, 0, 0, 0, 0, [])), (30, (2, 31, 0, 0, 0, 0, [])), (31, (21, 32, 0, 0, 0, 0, [])), (32, (14, 35, 1, 8, 8, 0, [])), (35, (0, 36, 0, 0, 0, 1, [])), (36, (7, 37, 0, 0, 0, 0, [])), (37, (15, 40, 1, 8, 8, 0, [])), (40, (20, 0, 0, 0, 0, 0, []))]
def zu_X1_addItem : List (Nat × List Nat) := [(0, [0, 1, 2])]
def zc_X1_setSort : List (Nat × zO) := [(0, (2, 1, 0, 0, 0, 0, [])), (1, (1, 2, 1, 0, 0, 0, [])), (2, (18, 5, 35, 2, 8, 0, [(0, 1)])), (5, (32, 8, 15, 0, 0, 0, [])), (8, (2, 9, 0, 0, 0, 0, [])), (9, (14, 12, 1, 0, 10, 0, [])), (12, (1, 13, 1, 0, 0, 0, [])), (13, (1, 14, 2, 0, 0, 0, [])), (14, (17, 15, 0, 0, 0, 0, [])), (15, (20, 0, 0, 0, 0, 0, []))]
def zu_X1_setSort : List (Nat × List Nat) := [(0, [0, 1, 2])]
def zc_X1_setFirst : List (Nat × zO) := [(0, (2, 1, 0, 0, 0, 0, [])), (1, (1, 2, 1, 0, 0, 0, [])), (2, (18, 5, 35, 2, 8, 0, [(0, 1)])), (5, (32, 8, 15, 0, 0, 0, [])), (8, (2, 9, 0, 0, 0, 0, [])), (9, (14, 12, 1, 2, 12, 0, [])), (12, (1, 13, 1, 0, 0, 0, [])), (13, (1, 14, 2, 0, 0, 0, [])), (14, (17, 15, 0, 0, 0, 0, [])), (15, (20, 0, 0, 0, 0, 0, []))]
def zu_X1_setFirst : List (Nat × List Nat) := [(0, [0, 1, 2])]
def zc_X1_setSecond : List (Nat × zO) := [(0, (2, 1, 0, 0, 0, 0, [])), (1, (1, 2, 1, 0, 0, 0, [])), (2, (18, 5, 35, 2, 8, 0, [(0, 1)])), (5, (32, 8, 15, 0, 0, 0, [])), (8, (2, 9, 0, 0, 0, 0, [])), (9, (14, 12, 1, 3, 13, 0, [])), (12, (1, 13, 1, 0, 0, 0, [])), (13, (1, 14, 2, 0, 0, 0, [])), (14, (17, 15, 0, 0, 0, 0, [])), (15, (20, 0, 0, 0, 0, 0, []))]
def zu_X1_setSecond : List (Nat × List Nat) := [(0, [0, 1, 2])]
def zc_X1_sortAt : List (Nat × zO) := [(0, (2, 1, 0, 0, 0, 0, [])), (1, (1, 2, 1, 0, 0, 0, [])), (2, (18, 5, 35, 2, 8, 0, [(0, 1)])), (5, (32, 8, 17, 0, 0, 0, [])), (8, (2, 9, 0, 0, 0, 0, [])), (9, (14, 12, 1, 0, 10, 0, [])), (12, (1, 13, 1, 0, 0, 0, [])), (13, (16, 14, 0, 0, 0, 0, [])), (14, (12, 0, 19, 0, 0, 0, [])), (17, (0, 19, 0, 0, 0, 13, [])), (19, (19, 0, 0, 0, 0, 0, []))]
def zu_X1_sortAt : List (Nat × List Nat) := [(0, [0, 1])]
def zc_X1_targetAt : List (Nat × zO) := [(0, (2, 1, 0, 0, 0, 0, [])), (1, (1, 2, 1, 0, 0, 0, [])), (2, (18, 5, 35, 2, 8, 0, [(0, 1)])), (5, (32, 8, 17, 0, 0, 0, [])), (8, (2, 9, 0, 0, 0, 0, [])), (9, (14, 12, 1, 1, 11, 0, [])), (12, (1, 13, 1, 0, 0, 0, [])), (13, (16, 14, 0, 0, 0, 0, [])), (14, (12, 0, 18, 0, 0, 0, [])), (17, (0, 18, 0, 0, 0, 0, [])), (18, (19, 0, 0, 0, 0, 0, []))]
def zu_X1_targetAt : List (Nat × List Nat) := [(0, [0, 1])]
def zc_X1_firstAt : List (Nat × zO) := [(0, (2, 1, 0, 0, 0, 0, [])), (1, (1, 2, 1, 0, 0, 0, [])), (2, (18, 5, 35, 2, 8, 0, [(0, 1)])), (5, (32, 8, 17, 0, 0, 0, [])), (8, (2, 9, 0, 0, 0, 0, [])), (9, (14, 12, 1, 2, 12, 0, [])), (12, (1, 13, 1, 0, 0, 0, [])), (13, (16, 14, 0, 0, 0, 0, [])), (14, (12, 0, 18, 0, 0, 0, [])), (17, (0, 18, 0, 0, 0, 0, [])), (18, (19, 0, 0, 0, 0, 0, []))]
def zu_X1_firstAt : List (Nat × List Nat) := [(0, [0, 1])]
def zc_X1_secondAt : List (Nat × zO) := [(0, (2, 1, 0, 0, 0, 0, [])), (1, (1, 2, 1, 0, 0, 0, [])), (2, (18, 5, 35, 2, 8, 0, [(0, 1)])), (5, (32, 8, 17, 0, 0, 0, [])), (8, (2, 9, 0, 0, 0, 0, [])), (9, (14, 12, 1, 3, 13, 0, [])), (12, (1, 13, 1, 0, 0, 0, [])), (13, (16, 14, 0, 0, 0, 0, [])), (14, (12, 0, 18, 0, 0, 0, [])), (17, (0, 18, 0, 0, 0, 0, [])), (18, (19, 0, 0, 0, 0, 0, []))]
def zu_X1_secondAt : List (Nat × List Nat) := [(0, [0, 1])]
def zc_X1_firstItem : List (Nat × zO) := [(0, (2, 1, 0, 0, 0, 0, [])), (1, (1, 2, 1, 0, 0, 0, [])), (2, (18, 5, 35, 2, 8, 0, [(0, 1)])), (5, (32, 8, 17, 0, 0, 0, [])), (8, (2, 9, 0, 0, 0, 0, [])), (9, (14, 12, 1, 4, 14, 0, [])), (12, (1, 13, 1, 0, 0, 0, [])), (13, (16, 14, 0, 0, 0, 0, [])), (14, (12, 0, 18, 0, 0, 0, [])), (17, (0, 18, 0, 0, 0, 0, [])), (18, (19, 0, 0, 0, 0, 0, []))]
def zu_X1_firstItem : List (Nat × List Nat) := [(0, [0, 1])]
def zc_X1_itemEnd : List (Nat × zO) := [(0, (2, 1, 0, 0, 0, 0, [])), (1, (1, 2, 1, 0, 0, 0, [])), (2, (0, 3, 0, 0, 0, 1, [])), (3, (7, 4, 0, 0, 0, 0, [])), (4, (18, 7, 35, 2, 8, 0, [(0, 1)])), (7, (32, 10, 21, 0, 0, 0, [])), (10, (2, 11, 0, 0, 0, 0, [])), (11, (14, 14, 1, 4, 14, 0, [])), (14, (1, 15, 1, 0, 0, 0, [])), (15, (0, 16, 0, 0, 0, 1, [])), (16, (7, 17, 0, 0, 0, 0, [])), (17, (16, 18, 0, 0, 0, 0, [])), (18, (12, 0, 25, 0, 0, 0, [])), (21, (2, 22, 0, 0, 0, 0, [])), (22, (14, 25, 1, 8, 8, 0, [])), (25, (19, 0, 0, 0, 0, 0, []))]
def zu_X1_itemEnd : List (Nat × List Nat) := [(0, [0, 1])]
def zc_X1_itemSort : List (Nat × zO) := [(0, (1, 1, 1, 0, 0, 0, [])), (1, (33, 4, 21, 0, 0, 0, [])), (4, (1, 5, 1, 0, 0, 0, [])), (5, (2, 6, 0, 0, 0, 0, [])), (6, (14, 9, 1, 8, 8, 0, [])), (9, (36, 21, 12, 0, 0, 0, [])), (12, (2, 13, 0, 0, 0, 0, [])), (13, (14, 16, 1, 5, 15, 0, [])), (16, (1, 17, 1, 0, 0, 0, [])), (17, (16, 18, 0, 0, 0, 0, [])), (18, (12, 0, 22, 0, 0, 0, [])), (21, (0, 22, 0, 0, 0, 0, [])), (22, (19, 0, 0, 0, 0, 0, []))]
def zu_X1_itemSort : List (Nat × List Nat) := [(0, [0, 1])]
def zc_X1_itemValue : List (Nat × zO) := [(0, (1, 1, 1, 0, 0, 0, [])), (1, (33, 4, 21, 0, 0, 0, [])), (4, (1, 5, 1, 0, 0, 0, [])), (5, (2, 6, 0, 0, 0, 0, [])), (6, (14, 9, 1, 8, 8, 0, [])), (9, (36, 21, 12, 0, 0, 0, [])), (12, (2, 13, 0, 0, 0, 0, [])), (13, (14, 16, 1, 6, 16, 0, [])), (16, (1, 17, 1, 0, 0, 0, [])), (17, (16, 18, 0, 0, 0, 0, [])), (18, (12, 0, 22, 0, 0, 0, [])), (21, (0, 22, 0, 0, 0, 0, [])), (22, (19, 0, 0, 0, 0, 0, []))]
def zu_X1_itemValue : List (Nat × List Nat) := [(0, [0, 1])]
def zc_X1_holds : List (Nat × zO) := [(0, (1, 1, 1, 0, 0, 0, [])), (1, (33, 4, 16, 0, 0, 0, [])), (4, (1, 5, 1, 0, 0, 0, [])), (5, (2, 6, 0, 0, 0, 0, [])), (6, (14, 9, 1, 7, 7, 0, [])), (9, (36, 16, 12, 0, 0, 0, [])), (12, (0, 13, 0, 0, 0, 1, [])), (13, (12, 0, 17, 0, 0, 0, [])), (16, (0, 17, 0, 0, 0, 0, [])), (17, (19, 0, 0, 1, 0, 0, []))]
def zu_X1_holds : List (Nat × List Nat) := [(0, [0, 1])]
def zc_X2_read : List (Nat × zO) := [(0, (2, 1, 0, 0, 0, 0, [])), (1, (14, 4, 2, 1, 17, 0, [])), (4, (30, 7, 17, 1, 9, 0, [(0, 1)])), (7, (2, 8, 0, 0, 0, 0, [])), (8, (0, 9, 0, 0, 0, 0, [])), (9, (18, 12, 37, 2, 10, 0, [(0, 2)])), (12, (32, 15, 29, 0, 0, 0, [])), (15, (2, 16, 0, 0, 0, 0, [])), (16, (14, 19, 2, 0, 18, 0, [])), (19, (18, 22, 80, 1, 11, 0, [(0, 6)])), (22, (32, 29, 25, 0, 0, 0, [])), (25, (0, 26, 0, 0, 0, 1, [])), (26, (12, 0, 30, 0, 0, 0, [])), (29, (0, 30, 0, 0, 0, 0, [])), (30, (4, 31, 1, 0, 0, 0, [])), (31, (1, 32, 1, 0, 0, 0, [])), (32, (32, 35, 39, 0, 0, 0, [])), (35, (0, 36, 0, 0, 0, (-1), [])), (36, (12, 0, 46, 0, 0, 0, [])), (39, (2, 40, 0, 0, 0, 0, [])), (40, (14, 43, 2, 0, 18, 0, [])), (43, (18, 46, 81, 1, 12, 0, [(0, 6)])), (46, (19, 0, 0, 0, 0, 0, []))]
def zu_X2_read : List (Nat × List Nat) := [(0, [0])]
def zc_X2_readStatements : List (Nat × zO) := [(0, (0, 1, 0, 0, 0, 0, [])), (1, (4, 10002, 2, 0, 0, 0, [])), (2, (1, 3, 2, 0, 0, 0, [])), (3, (0, 6, 0, 0, 0, 400, [])), (6, (36, 38, 9, 0, 0, 0, [])), (9, (2, 10, 0, 0, 0, 0, [])), (10, (14, 13, 2, 0, 18, 0, [])), (13, (18, 16, 80, 1, 11, 0, [(0, 6)])), (16, (18, 19, 38, 1, 13, 0, [])), (19, (32, 38, 22, 0, 0, 0, [])), (22, (2, 23, 0, 0, 0, 0, [])), (23, (1, 24, 1, 0, 0, 0, [])), (24, (18, 27, 39, 2, 14, 0, [(0, 2)])), (27, (32, 32, 30, 0, 0, 0, [])), (30, (0, 31, 0, 0, 0, 0, [])), (31, (19, 0, 0, 1, 0, 0, [])), (32, (6, 35, 2, 0, 0, 1, [])), (35, (12, 0, 10002, 0, 0, 0, [])), (38, (0, 39, 0, 0, 0, 1, [])), (39, (19, 0, 0, 1, 0, 0, []))]
def zu_X2_readStatements : List (Nat × List Nat) := [(0, [0, 1]), (2, [0, 1, 2])]
def zc_X2_isBlockEnd : List (Nat × zO) := [(0, (1, 1, 0, 0, 0, 0, [])), (1, (32, 4, 16, 0, 0, 0, [])), (4, (1, 5, 0, 0, 0, 0, [])), (5, (0, 7, 0, 0, 0, 124, [])), (7, (35, 10, 16, 0, 0, 0, [])), (10, (1, 11, 0, 0, 0, 0, [])), (11, (0, 13, 0, 0, 0, 93, [])), (13, (35, 20, 16, 0, 0, 0, [])), (16, (0, 17, 0, 0, 0, 1, [])), (17, (12, 0, 21, 0, 0, 0, [])), (20, (0, 21, 0, 0, 0, 0, [])), (21, (19, 0, 0, 1, 0, 0, []))]
def zu_X2_isBlockEnd : List (Nat × List Nat) := [(0, [0])]
def zc_X2_readStatement : List (Nat × zO) := [(0, (2, 1, 0, 0, 0, 0, [])), (1, (14, 4, 2, 0, 18, 0, [])), (4, (18, 7, 80, 1, 11, 0, [(0, 6)])), (7, (0, 9, 0, 0, 0, 63, [])), (9, (35, 18, 12, 0, 0, 0, [])), (12, (2, 13, 0, 0, 0, 0, [])), (13, (1, 14, 1, 0, 0, 0, [])), (14, (18, 17, 40, 2, 15, 0, [(0, 2)])), (17, (19, 0, 0, 1, 0, 0, [])), (18, (2, 19, 0, 0, 0, 0, [])), (19, (14, 22, 2, 0, 18, 0, [])), (22, (18, 25, 80, 1, 11, 0, [(0, 6)])), (25, (0, 27, 0, 0, 0, 64, [])), (27, (35, 36, 30, 0, 0, 0, [])), (30, (2, 31, 0, 0, 0, 0, [])), (31, (1, 32, 1, 0, 0, 0, [])), (32, (18, 35, 41, 2, 16, 0, [(0, 2)])), (35, (19, 0, 0, 1, 0, 0, [])), (36, (2, 37, 0, 0, 0, 0, [])), (37, (14, 40, 2, 0, 18, 0, [])), (40, (18, 43, 80, 1, 11, 0, [(0, 6)])), (43, (0, 44, 0, 0, 0, 2, [])), (44, (35, 73, 47, 0, 0, 0, [])), (47, (2, 48, 0, 0, 0, 0, [])), (48, (1, 49, 1, 0, 0, 0, [])), (49, (18, 52, 43, 2, 17, 0, [(0, 2)])), (52, (32, 55, 71, 0, 0, 0, [])), (55, (2, 56, 0, 0, 0, 0, [])), (56, (14, 59, 2, 0, 18, 0, [])), (59, (0, 61, 0, 0, 0, 59, [])), (61, (18, 64, 84, 2, 18, 0, [(0, 6)])), (64, (32, 67, 71, 0, 0, 0, [])), (67, (0, 68, 0, 0, 0, 1, [])), (68, (12, 0, 72, 0, 0, 0, [])), (71, (0, 72, 0, 0, 0, 0, [])), (72, (19, 0, 0, 1, 0, 0, [])), (73, (2, 74, 0, 0, 0, 0, [])), (74, (14, 77, 2, 0, 18, 0, [])), (77, (0, 79, 0, 0, 0, 9, [])), (79, (18, 82, 85, 2, 19, 0, [(0, 6)])), (82, (32, 85, 109, 0, 0, 0, [])), (85, (2, 86, 0, 0, 0, 0, [])), (86, (1, 87, 1, 0, 0, 0, [])), (87, (18, 90, 42, 2, 20, 0, [(0, 2)])), (90, (32, 93, 109, 0, 0, 0, [])), (93, (2, 94, 0, 0, 0, 0, [])), (94, (14, 97, 2, 0, 18, 0, [])), (97, (0, 99, 0, 0, 0, 59, [])), (99, (18, 102, 84, 2, 18, 0, [(0, 6)])), (102, (32, 105, 109, 0, 0, 0, [])), (105, (0, 106, 0, 0, 0, 1, [])), (106, (12, 0, 110, 0, 0, 0, [])), (109, (0, 110, 0, 0, 0, 0, [])), (110, (19, 0, 0, 1, 0, 0, []))]
def zu_X2_readStatement : List (Nat × List Nat) := [(0, [0, 1])]
def zc_X2_readChoice : List (Nat × zO) := [(0, (1, 1, 1, 0, 0, 0, [])), (1, (0, 3, 0, 0, 0, 10, [])), (3, (36, 6, 8, 0, 0, 0, [])), (6, (0, 7, 0, 0, 0, 0, [])), (7, (19, 0, 0, 1, 0, 0, [])), (8, (2, 9, 0, 0, 0, 0, [])), (9, (14, 12, 2, 1, 17, 0, [])), (12, (0, 14, 0, 0, 0, 10, [])), (14, (0, 15, 0, 0, 0, 0, [])), (15, (18, 18, 21, 3, 21, 0, [(0, 1)])), (18, (4, 19, 2, 0, 0, 0, [])), (19, (2, 20, 0, 0, 0, 0, [])), (20, (14, 23, 2, 0, 18, 0, [])), (23, (30, 26, 83, 1, 22, 0, [(0, 6)])), (26, (2, 27, 0, 0, 0, 0, [])), (27, (1, 28, 1, 0, 0, 0, [])), (28, (0, 29, 0, 0, 0, 1, [])), (29, (7, 30, 0, 0, 0, 0, [])), (30, (18, 33, 47, 2, 23, 0, [(0, 2)])), (33, (32, 36, 70, 0, 0, 0, [])), (36, (2, 37, 0, 0, 0, 0, [])), (37, (14, 40, 2, 0, 18, 0, [])), (40, (0, 42, 0, 0, 0, 91, [])), (42, (18, 45, 84, 2, 18, 0, [(0, 6)])), (45, (32, 48, 70, 0, 0, 0, [])), (48, (2, 49, 0, 0, 0, 0, [])), (49, (1, 50, 1, 0, 0, 0, [])), (50, (0, 51, 0, 0, 0, 1, [])), (51, (7, 52, 0, 0, 0, 0, [])), (52, (18, 55, 37, 2, 10, 0, [(0, 2)])), (55, (32, 58, 70, 0, 0, 0, [])), (58, (2, 59, 0, 0, 0, 0, [])), (59, (14, 62, 2, 0, 18, 0, [])), (62, (0, 64, 0, 0, 0, 124, [])), (64, (18, 67, 84, 2, 18, 0, [(0, 6)])), (67, (32, 72, 70, 0, 0, 0, [])), (70, (0, 71, 0, 0, 0, 0, [])), (71, (19, 0, 0, 1, 0, 0, [])), (72, (2, 73, 0, 0, 0, 0, [])), (73, (14, 76, 2, 1, 17, 0, [])), (76, (0, 77, 0, 0, 0, 0, [])), (77, (18, 80, 22, 2, 24, 0, [(0, 1)])), (80, (4, 81, 3, 0, 0, 0, [])), (81, (2, 82, 0, 0, 0, 0, [])), (82, (14, 85, 2, 1, 17, 0, [])), (85, (1, 86, 2, 0, 0, 0, [])), (86, (2, 87, 0, 0, 0, 0, [])), (87, (14, 90, 2, 1, 17, 0, [])), (90, (18, 93, 19, 1, 25, 0, [(0, 1)])), (93, (30, 96, 25, 3, 26, 0, [(0, 1)])), (96, (2, 97, 0, 0, 0, 0, [])), (97, (1, 98, 1, 0, 0, 0, [])), (98, (0, 99, 0, 0, 0, 1, [])), (99, (7, 100, 0, 0, 0, 0, [])), (100, (18, 103, 37, 2, 10, 0, [(0, 2)])), (103, (32, 106, 118, 0, 0, 0, [])), (106, (2, 107, 0, 0, 0, 0, [])), (107, (14, 110, 2, 0, 18, 0, [])), (110, (0, 112, 0, 0, 0, 93, [])), (112, (18, 115, 84, 2, 18, 0, [(0, 6)])), (115, (32, 120, 118, 0, 0, 0, [])), (118, (0, 119, 0, 0, 0, 0, [])), (119, (19, 0, 0, 1, 0, 0, [])), (120, (2, 121, 0, 0, 0, 0, [])), (121, (14, 124, 2, 1, 17, 0, [])), (124, (1, 125, 3, 0, 0, 0, [])), (125, (2, 126, 0, 0, 0, 0, [])), (126, (14, 129, 2, 1, 17, 0, [])), (129, (18, 132, 19, 1, 25, 0, [(0, 1)])), (132, (30, 135, 25, 3, 26, 0, [(0, 1)])), (135, (0, 136, 0, 0, 0, 1, [])), (136, (19, 0, 0, 1, 0, 0, []))]
def zu_X2_readChoice : List (Nat × List Nat) := [(0, [0, 1])]
def zc_X2_readLoop : List (Nat × zO) := [(0, (1, 1, 1, 0, 0, 0, [])), (1, (0, 3, 0, 0, 0, 10, [])), (3, (36, 6, 8, 0, 0, 0, [])), (6, (0, 7, 0, 0, 0, 0, [])), (7, (19, 0, 0, 1, 0, 0, [])), (8, (2, 9, 0, 0, 0, 0, [])), (9, (14, 12, 2, 1, 17, 0, [])), (12, (0, 14, 0, 0, 0, 11, [])), (14, (0, 15, 0, 0, 0, 0, [])), (15, (18, 18, 21, 3, 21, 0, [(0, 1)])), (18, (4, 19, 2, 0, 0, 0, [])), (19, (2, 20, 0, 0, 0, 0, [])), (20, (14, 23, 2, 0, 18, 0, [])), (23, (30, 26, 83, 1, 22, 0, [(0, 6)])), (26, (2, 27, 0, 0, 0, 0, [])), (27, (1, 28, 1, 0, 0, 0, [])), (28, (0, 29, 0, 0, 0, 1, [])), (29, (7, 30, 0, 0, 0, 0, [])), (30, (18, 33, 47, 2, 23, 0, [(0, 2)])), (33, (32, 36, 70, 0, 0, 0, [])), (36, (2, 37, 0, 0, 0, 0, [])), (37, (14, 40, 2, 0, 18, 0, [])), (40, (0, 42, 0, 0, 0, 91, [])), (42, (18, 45, 84, 2, 18, 0, [(0, 6)])), (45, (32, 48, 70, 0, 0, 0, [])), (48, (2, 49, 0, 0, 0, 0, [])), (49, (1, 50, 1, 0, 0, 0, [])), (50, (0, 51, 0, 0, 0, 1, [])), (51, (7, 52, 0, 0, 0, 0, [])), (52, (18, 55, 37, 2, 10, 0, [(0, 2)])), (55, (32, 58, 70, 0, 0, 0, [])), (58, (2, 59, 0, 0, 0, 0, [])), (59, (14, 62, 2, 0, 18, 0, [])), (62, (0, 64, 0, 0, 0, 93, [])), (64, (18, 67, 84, 2, 18, 0, [(0, 6)])), (67, (32, 72, 70, 0, 0, 0, [])), (70, (0, 71, 0, 0, 0, 0, [])), (71, (19, 0, 0, 1, 0, 0, [])), (72, (2, 73, 0, 0, 0, 0, [])), (73, (14, 76, 2, 1, 17, 0, [])), (76, (1, 77, 2, 0, 0, 0, [])), (77, (18, 80, 22, 2, 24, 0, [(0, 1)])), (80, (22, 81, 0, 0, 0, 0, [])), (81, (2, 82, 0, 0, 0, 0, [])), (82, (14, 85, 2, 1, 17, 0, [])), (85, (1, 86, 2, 0, 0, 0, [])), (86, (2, 87, 0, 0, 0, 0, [])), (87, (14, 90, 2, 1, 17, 0, [])), (90, (18, 93, 19, 1, 25, 0, [(0, 1)])), (93, (30, 96, 25, 3, 26, 0, [(0, 1)])), (96, (0, 97, 0, 0, 0, 1, [])), (97, (19, 0, 0, 1, 0, 0, []))]
def zu_X2_readLoop : List (Nat × List Nat) := [(0, [0, 1])]
def zc_X2_readStop : List (Nat × zO) := [(0, (2, 1, 0, 0, 0, 0, [])), (1, (14, 4, 2, 1, 17, 0, [])), (4, (0, 6, 0, 0, 0, 9, [])), (6, (0, 7, 0, 0, 0, 0, [])), (7, (18, 10, 21, 3, 21, 0, [(0, 1)])), (10, (22, 11, 0, 0, 0, 0, [])), (11, (2, 12, 0, 0, 0, 0, [])), (12, (14, 15, 2, 0, 18, 0, [])), (15, (30, 18, 83, 1, 22, 0, [(0, 6)])), (18, (2, 19, 0, 0, 0, 0, [])), (19, (1, 20, 1, 0, 0, 0, [])), (20, (18, 23, 47, 2, 23, 0, [(0, 2)])), (23, (19, 0, 0, 1, 0, 0, []))]
def zu_X2_readStop : List (Nat × List Nat) := [(0, [0, 1])]
def zc_X2_readAssignment : List (Nat × zO) := [(0, (2, 1, 0, 0, 0, 0, [])), (1, (14, 4, 2, 1, 17, 0, [])), (4, (0, 5, 0, 0, 0, 0, [])), (5, (2, 6, 0, 0, 0, 0, [])), (6, (14, 9, 2, 0, 18, 0, [])), (9, (18, 12, 82, 1, 27, 0, [(0, 6)])), (12, (18, 15, 21, 3, 21, 0, [(0, 1)])), (15, (4, 16, 2, 0, 0, 0, [])), (16, (2, 17, 0, 0, 0, 0, [])), (17, (14, 20, 2, 0, 18, 0, [])), (20, (30, 23, 83, 1, 22, 0, [(0, 6)])), (23, (2, 24, 0, 0, 0, 0, [])), (24, (14, 27, 2, 0, 18, 0, [])), (27, (0, 29, 0, 0, 0, 61, [])), (29, (18, 32, 84, 2, 18, 0, [(0, 6)])), (32, (32, 37, 35, 0, 0, 0, [])), (35, (0, 36, 0, 0, 0, 0, [])), (36, (19, 0, 0, 1, 0, 0, [])), (37, (2, 38, 0, 0, 0, 0, [])), (38, (14, 41, 2, 0, 18, 0, [])), (41, (18, 44, 80, 1, 11, 0, [(0, 6)])), (44, (0, 45, 0, 0, 0, 4, [])), (45, (35, 48, 54, 0, 0, 0, [])), (48, (2, 49, 0, 0, 0, 0, [])), (49, (1, 50, 1, 0, 0, 0, [])), (50, (18, 53, 47, 2, 23, 0, [(0, 2)])), (53, (19, 0, 0, 1, 0, 0, [])), (54, (2, 55, 0, 0, 0, 0, [])), (55, (14, 58, 2, 0, 18, 0, [])), (58, (18, 61, 82, 1, 27, 0, [(0, 6)])), (61, (4, 62, 3, 0, 0, 0, [])), (62, (1, 63, 3, 0, 0, 0, [])), (63, (0, 65, 0, 0, 0, 9, [])), (65, (35, 70, 68, 0, 0, 0, [])), (68, (0, 69, 0, 0, 0, 0, [])), (69, (19, 0, 0, 1, 0, 0, [])), (70, (2, 71, 0, 0, 0, 0, [])), (71, (14, 74, 2, 1, 17, 0, [])), (74, (1, 75, 2, 0, 0, 0, [])), (75, (1, 76, 3, 0, 0, 0, [])), (76, (30, 79, 24, 3, 28, 0, [(0, 1)])), (79, (2, 80, 0, 0, 0, 0, [])), (80, (14, 83, 2, 0, 18, 0, [])), (83, (30, 86, 83, 1, 22, 0, [(0, 6)])), (86, (2, 87, 0, 0, 0, 0, [])), (87, (1, 88, 3, 0, 0, 0, [])), (88, (1, 89, 2, 0, 0, 0, [])), (89, (1, 90, 1, 0, 0, 0, [])), (90, (18, 93, 44, 4, 29, 0, [(0, 2)])), (93, (19, 0, 0, 1, 0, 0, []))]
def zu_X2_readAssignment : List (Nat × List Nat) := [(0, [0, 1])]
def zc_X2_readRest : List (Nat × zO) := [(0, (1, 1, 1, 0, 0, 0, [])), (1, (13, 0, 138, 0, 0, 0, [(1, 48), (2, 83), (3, 89), (4, 96), (5, 89), (6, 138), (7, 138), (8, 131)])), (48, (2, 49, 0, 0, 0, 0, [])), (49, (1, 50, 2, 0, 0, 0, [])), (50, (0, 51, 0, 0, 0, 3, [])), (51, (18, 54, 45, 3, 30, 0, [(0, 2)])), (54, (32, 57, 81, 0, 0, 0, [])), (57, (2, 58, 0, 0, 0, 0, [])), (58, (14, 61, 2, 0, 18, 0, [])), (61, (0, 63, 0, 0, 0, 44, [])), (63, (18, 66, 84, 2, 18, 0, [(0, 6)])), (66, (32, 69, 81, 0, 0, 0, [])), (69, (2, 70, 0, 0, 0, 0, [])), (70, (1, 71, 3, 0, 0, 0, [])), (71, (18, 74, 47, 2, 23, 0, [(0, 2)])), (74, (32, 77, 81, 0, 0, 0, [])), (77, (0, 78, 0, 0, 0, 1, [])), (78, (12, 0, 82, 0, 0, 0, [])), (81, (0, 82, 0, 0, 0, 0, [])), (82, (19, 0, 0, 1, 0, 0, [])), (83, (2, 84, 0, 0, 0, 0, [])), (84, (1, 85, 3, 0, 0, 0, [])), (85, (18, 88, 47, 2, 23, 0, [(0, 2)])), (88, (19, 0, 0, 1, 0, 0, [])), (89, (2, 90, 0, 0, 0, 0, [])), (90, (1, 91, 2, 0, 0, 0, [])), (91, (0, 92, 0, 0, 0, 2, [])), (92, (18, 95, 45, 3, 30, 0, [(0, 2)])), (95, (19, 0, 0, 1, 0, 0, [])), (96, (2, 97, 0, 0, 0, 0, [])), (97, (1, 98, 2, 0, 0, 0, [])), (98, (0, 99, 0, 0, 0, 2, [])), (99, (18, 102, 45, 3, 30, 0, [(0, 2)])), (102, (32, 105, 129, 0, 0, 0, [])), (105, (2, 106, 0, 0, 0, 0, [])), (106, (14, 109, 2, 0, 18, 0, [])), (109, (0, 111, 0, 0, 0, 44, [])), (111, (18, 114, 84, 2, 18, 0, [(0, 6)])), (114, (32, 117, 129, 0, 0, 0, [])), (117, (2, 118, 0, 0, 0, 0, [])), (118, (1, 119, 2, 0, 0, 0, [])), (119, (18, 122, 46, 2, 31, 0, [(0, 2)])), (122, (32, 125, 129, 0, 0, 0, [])), (125, (0, 126, 0, 0, 0, 1, [])), (126, (12, 0, 130, 0, 0, 0, [])), (129, (0, 130, 0, 0, 0, 0, [])), (130, (19, 0, 0, 1, 0, 0, [])), (131, (2, 132, 0, 0, 0, 0, [])), (132, (1, 133, 2, 0, 0, 0, [])), (133, (0, 134, 0, 0, 0, 3, [])), (134, (18, 137, 45, 3, 30, 0, [(0, 2)])), (137, (19, 0, 0, 1, 0, 0, [])), (138, (0, 139, 0, 0, 0, 1, [])), (139, (19, 0, 0, 1, 0, 0, []))]
def zu_X2_readRest : List (Nat × List Nat) := [(0, [0, 1, 2, 3])]
def zc_X2_readFirst : List (Nat × zO) := [(0, (2, 1, 0, 0, 0, 0, [])), (1, (14, 4, 2, 1, 17, 0, [])), (4, (1, 5, 1, 0, 0, 0, [])), (5, (2, 6, 0, 0, 0, 0, [])), (6, (14, 9, 2, 0, 18, 0, [])), (9, (18, 12, 82, 1, 27, 0, [(0, 6)])), (12, (30, 15, 25, 3, 26, 0, [(0, 1)])), (15, (2, 16, 0, 0, 0, 0, [])), (16, (14, 19, 2, 0, 18, 0, [])), (19, (1, 20, 2, 0, 0, 0, [])), (20, (18, 23, 84, 2, 18, 0, [(0, 6)])), (23, (19, 0, 0, 1, 0, 0, []))]
def zu_X2_readFirst : List (Nat × List Nat) := [(0, [0, 1, 2])]
def zc_X2_readSecond : List (Nat × zO) := [(0, (2, 1, 0, 0, 0, 0, [])), (1, (14, 4, 2, 1, 17, 0, [])), (4, (1, 5, 1, 0, 0, 0, [])), (5, (2, 6, 0, 0, 0, 0, [])), (6, (14, 9, 2, 0, 18, 0, [])), (9, (18, 12, 82, 1, 27, 0, [(0, 6)])), (12, (30, 15, 26, 3, 32, 0, [(0, 1)])), (15, (2, 16, 0, 0, 0, 0, [])), (16, (14, 19, 2, 0, 18, 0, [])), (19, (0, 20, 0, 0, 0, 2, [])), (20, (18, 23, 84, 2, 18, 0, [(0, 6)])), (23, (19, 0, 0, 1, 0, 0, []))]
def zu_X2_readSecond : List (Nat × List Nat) := [(0, [0, 1])]
def zc_X2_readX : List (Nat × zO) := [(0, (2, 1, 0, 0, 0, 0, [])), (1, (1, 2, 1, 0, 0, 0, [])), (2, (18, 5, 48, 2, 33, 0, [(0, 2)])), (5, (32, 10, 8, 0, 0, 0, [])), (8, (0, 9, 0, 0, 0, 0, [])), (9, (19, 0, 0, 1, 0, 0, [])), (10, (2, 11, 0, 0, 0, 0, [])), (11, (14, 14, 2, 0, 18, 0, [])), (14, (0, 16, 0, 0, 0, 60, [])), (16, (18, 19, 84, 2, 18, 0, [(0, 6)])), (19, (32, 24, 22, 0, 0, 0, [])), (22, (0, 23, 0, 0, 0, 1, [])), (23, (19, 0, 0, 1, 0, 0, [])), (24, (2, 25, 0, 0, 0, 0, [])), (25, (1, 26, 1, 0, 0, 0, [])), (26, (18, 29, 48, 2, 33, 0, [(0, 2)])), (29, (32, 34, 32, 0, 0, 0, [])), (32, (0, 33, 0, 0, 0, 0, [])), (33, (19, 0, 0, 1, 0, 0, [])), (34, (2, 35, 0, 0, 0, 0, [])), (35, (14, 38, 2, 1, 17, 0, [])), (38, (0, 39, 0, 0, 0, 3, [])), (39, (0, 40, 0, 0, 0, 0, [])), (40, (30, 43, 23, 3, 34, 0, [(0, 1)])), (43, (0, 44, 0, 0, 0, 1, [])), (44, (19, 0, 0, 1, 0, 0, []))]
def zu_X2_readX : List (Nat × List Nat) := [(0, [0, 1])]
def zc_X2_readPart : List (Nat × zO) := [(0, (2, 1, 0, 0, 0, 0, [])), (1, (1, 2, 1, 0, 0, 0, [])), (2, (18, 5, 49, 2, 35, 0, [(0, 2)])), (5, (32, 10, 8, 0, 0, 0, [])), (8, (0, 9, 0, 0, 0, 0, [])), (9, (19, 0, 0, 1, 0, 0, [])), (10, (0, 11, 0, 0, 0, 0, [])), (11, (4, 10012, 2, 0, 0, 0, [])), (12, (1, 13, 2, 0, 0, 0, [])), (13, (0, 16, 0, 0, 0, 400, [])), (16, (36, 93, 19, 0, 0, 0, [])), (19, (2, 20, 0, 0, 0, 0, [])), (20, (14, 23, 2, 0, 18, 0, [])), (23, (18, 26, 80, 1, 11, 0, [(0, 6)])), (26, (0, 28, 0, 0, 0, 43, [])), (28, (35, 31, 43, 0, 0, 0, [])), (31, (2, 32, 0, 0, 0, 0, [])), (32, (14, 35, 2, 0, 18, 0, [])), (35, (18, 38, 80, 1, 11, 0, [(0, 6)])), (38, (0, 40, 0, 0, 0, 45, [])), (40, (35, 93, 43, 0, 0, 0, [])), (43, (2, 44, 0, 0, 0, 0, [])), (44, (14, 47, 2, 0, 18, 0, [])), (47, (18, 50, 80, 1, 11, 0, [(0, 6)])), (50, (0, 52, 0, 0, 0, 43, [])), (52, (35, 59, 55, 0, 0, 0, [])), (55, (0, 56, 0, 0, 0, 4, [])), (56, (12, 0, 60, 0, 0, 0, [])), (59, (0, 60, 0, 0, 0, 5, [])), (60, (4, 61, 3, 0, 0, 0, [])), (61, (2, 62, 0, 0, 0, 0, [])), (62, (14, 65, 2, 0, 18, 0, [])), (65, (30, 68, 83, 1, 22, 0, [(0, 6)])), (68, (2, 69, 0, 0, 0, 0, [])), (69, (1, 70, 1, 0, 0, 0, [])), (70, (18, 73, 49, 2, 35, 0, [(0, 2)])), (73, (32, 78, 76, 0, 0, 0, [])), (76, (0, 77, 0, 0, 0, 0, [])), (77, (19, 0, 0, 1, 0, 0, [])), (78, (2, 79, 0, 0, 0, 0, [])), (79, (14, 82, 2, 1, 17, 0, [])), (82, (1, 83, 3, 0, 0, 0, [])), (83, (0, 84, 0, 0, 0, 0, [])), (84, (30, 87, 23, 3, 34, 0, [(0, 1)])), (87, (6, 90, 2, 0, 0, 1, [])), (90, (12, 0, 10012, 0, 0, 0, [])), (93, (0, 94, 0, 0, 0, 1, [])), (94, (19, 0, 0, 1, 0, 0, []))]
def zu_X2_readPart : List (Nat × List Nat) := [(0, [0, 1]), (12, [0, 1, 2])]
def zc_X2_readTerm : List (Nat × zO) := [(0, (2, 1, 0, 0, 0, 0, [])), (1, (1, 2, 1, 0, 0, 0, [])), (2, (18, 5, 50, 2, 36, 0, [(0, 2)])), (5, (32, 10, 8, 0, 0, 0, [])), (8, (0, 9, 0, 0, 0, 0, [])), (9, (19, 0, 0, 1, 0, 0, [])), (10, (0, 11, 0, 0, 0, 0, [])), (11, (4, 10012, 2, 0, 0, 0, [])), (12, (1, 13, 2, 0, 0, 0, [])), (13, (0, 16, 0, 0, 0, 400, [])), (16, (36, 64, 19, 0, 0, 0, [])), (19, (2, 20, 0, 0, 0, 0, [])), (20, (14, 23, 2, 0, 18, 0, [])), (23, (18, 26, 80, 1, 11, 0, [(0, 6)])), (26, (0, 28, 0, 0, 0, 42, [])), (28, (35, 64, 31, 0, 0, 0, [])), (31, (2, 32, 0, 0, 0, 0, [])), (32, (14, 35, 2, 0, 18, 0, [])), (35, (30, 38, 83, 1, 22, 0, [(0, 6)])), (38, (2, 39, 0, 0, 0, 0, [])), (39, (1, 40, 1, 0, 0, 0, [])), (40, (18, 43, 50, 2, 36, 0, [(0, 2)])), (43, (32, 48, 46, 0, 0, 0, [])), (46, (0, 47, 0, 0, 0, 0, [])), (47, (19, 0, 0, 1, 0, 0, [])), (48, (2, 49, 0, 0, 0, 0, [])), (49, (14, 52, 2, 1, 17, 0, [])), (52, (0, 54, 0, 0, 0, 6, [])), (54, (0, 55, 0, 0, 0, 0, [])), (55, (30, 58, 23, 3, 34, 0, [(0, 1)])), (58, (6, 61, 2, 0, 0, 1, [])), (61, (12, 0, 10012, 0, 0, 0, [])), (64, (0, 65, 0, 0, 0, 1, [])), (65, (19, 0, 0, 1, 0, 0, []))]
def zu_X2_readTerm : List (Nat × List Nat) := [(0, [0, 1]), (12, [0, 1, 2])]
def zc_X2_readFactor : List (Nat × zO) := [(0, (2, 1, 0, 0, 0, 0, [])), (1, (14, 4, 2, 0, 18, 0, [])), (4, (18, 7, 80, 1, 11, 0, [(0, 6)])), (7, (4, 8, 2, 0, 0, 0, [])), (8, (1, 9, 2, 0, 0, 0, [])), (9, (0, 10, 0, 0, 0, 3, [])), (10, (35, 13, 18, 0, 0, 0, [])), (13, (1, 14, 2, 0, 0, 0, [])), (14, (0, 15, 0, 0, 0, 2, [])), (15, (35, 51, 18, 0, 0, 0, [])), (18, (2, 19, 0, 0, 0, 0, [])), (19, (14, 22, 2, 1, 17, 0, [])), (22, (1, 23, 2, 0, 0, 0, [])), (23, (0, 24, 0, 0, 0, 3, [])), (24, (35, 31, 27, 0, 0, 0, [])), (27, (0, 28, 0, 0, 0, 0, [])), (28, (12, 0, 32, 0, 0, 0, [])), (31, (0, 32, 0, 0, 0, 1, [])), (32, (2, 33, 0, 0, 0, 0, [])), (33, (14, 36, 2, 0, 18, 0, [])), (36, (18, 39, 82, 1, 27, 0, [(0, 6)])), (39, (30, 42, 23, 3, 34, 0, [(0, 1)])), (42, (2, 43, 0, 0, 0, 0, [])), (43, (14, 46, 2, 0, 18, 0, [])), (46, (30, 49, 83, 1, 22, 0, [(0, 6)])), (49, (0, 50, 0, 0, 0, 1, [])), (50, (19, 0, 0, 1, 0, 0, [])), (51, (1, 52, 2, 0, 0, 0, [])), (52, (0, 54, 0, 0, 0, 45, [])), (54, (35, 57, 63, 0, 0, 0, [])), (57, (1, 58, 2, 0, 0, 0, [])), (58, (0, 60, 0, 0, 0, 40, [])), (60, (35, 69, 63, 0, 0, 0, [])), (63, (1, 64, 1, 0, 0, 0, [])), (64, (0, 66, 0, 0, 0, 10, [])), (66, (36, 69, 71, 0, 0, 0, [])), (69, (0, 70, 0, 0, 0, 0, [])), (70, (19, 0, 0, 1, 0, 0, [])), (71, (2, 72, 0, 0, 0, 0, [])), (72, (14, 75, 2, 0, 18, 0, [])), (75, (30, 78, 83, 1, 22, 0, [(0, 6)])), (78, (1, 79, 2, 0, 0, 0, [])), (79, (0, 81, 0, 0, 0, 40, [])), (81, (35, 112, 84, 0, 0, 0, [])), (84, (2, 85, 0, 0, 0, 0, [])), (85, (1, 86, 1, 0, 0, 0, [])), (86, (0, 87, 0, 0, 0, 1, [])), (87, (7, 88, 0, 0, 0, 0, [])), (88, (18, 91, 47, 2, 23, 0, [(0, 2)])), (91, (32, 94, 110, 0, 0, 0, [])), (94, (2, 95, 0, 0, 0, 0, [])), (95, (14, 98, 2, 0, 18, 0, [])), (98, (0, 100, 0, 0, 0, 41, [])), (100, (18, 103, 84, 2, 18, 0, [(0, 6)])), (103, (32, 106, 110, 0, 0, 0, [])), (106, (0, 107, 0, 0, 0, 1, [])), (107, (12, 0, 111, 0, 0, 0, [])), (110, (0, 111, 0, 0, 0, 0, [])), (111, (19, 0, 0, 1, 0, 0, [])), (112, (2, 113, 0, 0, 0, 0, [])), (113, (1, 114, 1, 0, 0, 0, [])), (114, (0, 115, 0, 0, 0, 1, [])), (115, (7, 116, 0, 0, 0, 0, [])), (116, (18, 119, 50, 2, 36, 0, [(0, 2)])), (119, (32, 124, 122, 0, 0, 0, [])), (122, (0, 123, 0, 0, 0, 0, [])), (123, (19, 0, 0, 1, 0, 0, [])), (124, (2, 125, 0, 0, 0, 0, [])), (125, (14, 128, 2, 1, 17, 0, [])), (128, (0, 129, 0, 0, 0, 2, [])), (129, (0, 130, 0, 0, 0, 0, [])), (130, (30, 133, 23, 3, 34, 0, [(0, 1)])), (133, (0, 134, 0, 0, 0, 1, [])), (134, (19, 0, 0, 1, 0, 0, []))]
def zu_X2_readFactor : List (Nat × List Nat) := [(0, [0, 1])]
def zc_X3_restart : List (Nat × zO) := [(0, (0, 1, 0, 0, 0, 0, [])), (1, (4, 10002, 1, 0, 0, 0, [])), (2, (1, 3, 1, 0, 0, 0, [])), (3, (0, 5, 0, 0, 0, 8, [])), (5, (36, 21, 8, 0, 0, 0, [])), (8, (2, 9, 0, 0, 0, 0, [])), (9, (14, 12, 3, 0, 19, 0, [])), (12, (1, 13, 1, 0, 0, 0, [])), (13, (0, 14, 0, 0, 0, 0, [])), (14, (17, 15, 0, 0, 0, 0, [])), (15, (6, 18, 1, 0, 0, 1, [])), (18, (12, 0, 10002, 0, 0, 0, [])), (21, (2, 22, 0, 0, 0, 0, [])), (22, (0, 23, 0, 0, 0, 0, [])), (23, (15, 26, 3, 1, 20, 0, [])), (26, (2, 27, 0, 0, 0, 0, [])), (27, (0, 28, 0, 0, 0, 0, [])), (28, (15, 31, 3, 2, 21, 0, [])), (31, (2, 32, 0, 0, 0, 0, [])), (32, (0, 33, 0, 0, 0, 0, [])), (33, (15, 36, 3, 3, 22, 0, [])), (36, (2, 37, 0, 0, 0, 0, [])), (37, (0, 38, 0, 0, 0, 0, [])), (38, (15, 41, 3, 4, 23, 0, [])), (41, (2, 42, 0, 0, 0, 0, [])), (42, (0, 43, 0, 0, 0, 0, [])), (43, (31, 46, 3, 5, 24, 0, [])), (46, (20, 0, 0, 0, 0, 0, []))]
def zu_X3_restart : List (Nat × List Nat) := [(0, [0]), (2, [0, 1])]
def zc_X3_copyFrom : List (Nat × zO) := [(0, (2, 1, 1, 0, 0, 0, [])), (1, (14, 4, 3, 0, 19, 0, [])), (4, (0, 5, 0, 0, 0, 0, [])), (5, (2, 6, 0, 0, 0, 0, [])), (6, (14, 9, 3, 0, 19, 0, [])), (9, (0, 10, 0, 0, 0, 0, [])), (10, (0, 12, 0, 0, 0, 8, [])), (12, (25, 15, 32, 0, 0, 0, [])), (15, (2, 16, 0, 0, 0, 0, [])), (16, (2, 17, 1, 0, 0, 0, [])), (17, (14, 20, 3, 1, 20, 0, [])), (20, (15, 23, 3, 1, 20, 0, [])), (23, (2, 24, 0, 0, 0, 0, [])), (24, (2, 25, 1, 0, 0, 0, [])), (25, (14, 28, 3, 2, 21, 0, [])), (28, (15, 31, 3, 2, 21, 0, [])), (31, (2, 32, 0, 0, 0, 0, [])), (32, (2, 33, 1, 0, 0, 0, [])), (33, (14, 36, 3, 3, 22, 0, [])), (36, (15, 39, 3, 3, 22, 0, [])), (39, (2, 40, 0, 0, 0, 0, [])), (40, (2, 41, 1, 0, 0, 0, [])), (41, (14, 44, 3, 4, 23, 0, [])), (44, (15, 47, 3, 4, 23, 0, [])), (47, (2, 48, 0, 0, 0, 0, [])), (48, (2, 49, 1, 0, 0, 0, [])), (49, (14, 52, 3, 5, 24, 0, [])), (52, (31, 55, 3, 5, 24, 0, [])), (55, (20, 0, 0, 0, 0, 0, []))]
def zu_X3_copyFrom : List (Nat × List Nat) := [(0, [0, 1])]
def zc_X3_get : List (Nat × zO) := [(0, (1, 1, 1, 0, 0, 0, [])), (1, (33, 4, 19, 0, 0, 0, [])), (4, (1, 5, 1, 0, 0, 0, [])), (5, (0, 7, 0, 0, 0, 8, [])), (7, (36, 19, 10, 0, 0, 0, [])), (10, (2, 11, 0, 0, 0, 0, [])), (11, (14, 14, 3, 0, 19, 0, [])), (14, (1, 15, 1, 0, 0, 0, [])), (15, (16, 16, 0, 0, 0, 0, [])), (16, (12, 0, 20, 0, 0, 0, [])), (19, (0, 20, 0, 0, 0, 0, [])), (20, (19, 0, 0, 0, 0, 0, []))]
def zu_X3_get : List (Nat × List Nat) := [(0, [0, 1])]
def zc_X3_set : List (Nat × zO) := [(0, (1, 1, 1, 0, 0, 0, [])), (1, (33, 4, 17, 0, 0, 0, [])), (4, (1, 5, 1, 0, 0, 0, [])), (5, (0, 7, 0, 0, 0, 8, [])), (7, (36, 17, 10, 0, 0, 0, [])), (10, (2, 11, 0, 0, 0, 0, [])), (11, (14, 14, 3, 0, 19, 0, [])), (14, (1, 15, 1, 0, 0, 0, [])), (15, (1, 16, 2, 0, 0, 0, [])), (16, (17, 17, 0, 0, 0, 0, [])), (17, (20, 0, 0, 0, 0, 0, []))]
def zu_X3_set : List (Nat × List Nat) := [(0, [0, 1, 2])]
def zc_X4_catchUp : List (Nat × zO) := [(0, (2, 1, 0, 0, 0, 0, [])), (1, (14, 4, 4, 2, 25, 0, [])), (4, (14, 7, 3, 4, 26, 0, [])), (7, (4, 10008, 1, 0, 0, 0, [])), (8, (1, 9, 1, 0, 0, 0, [])), (9, (2, 10, 0, 0, 0, 0, [])), (10, (14, 13, 4, 1, 27, 0, [])), (13, (18, 16, 1, 1, 37, 0, [(0, 0)])), (16, (36, 69, 19, 0, 0, 0, [])), (19, (2, 20, 0, 0, 0, 0, [])), (20, (14, 23, 4, 1, 27, 0, [])), (23, (1, 24, 1, 0, 0, 0, [])), (24, (18, 27, 3, 2, 38, 0, [(0, 0)])), (27, (32, 63, 30, 0, 0, 0, [])), (30, (2, 31, 0, 0, 0, 0, [])), (31, (1, 32, 1, 0, 0, 0, [])), (32, (2, 33, 0, 0, 0, 0, [])), (33, (14, 36, 4, 1, 27, 0, [])), (36, (1, 37, 1, 0, 0, 0, [])), (37, (18, 40, 10, 2, 39, 0, [(0, 0)])), (40, (0, 41, 0, 0, 0, 0, [])), (41, (30, 44, 57, 4, 40, 0, [(0, 4)])), (44, (2, 45, 0, 0, 0, 0, [])), (45, (14, 48, 4, 11, 28, 0, [])), (48, (32, 51, 63, 0, 0, 0, [])), (51, (2, 52, 0, 0, 0, 0, [])), (52, (14, 55, 4, 2, 25, 0, [])), (55, (30, 58, 51, 1, 41, 0, [(0, 3)])), (58, (2, 59, 0, 0, 0, 0, [])), (59, (14, 62, 4, 11, 28, 0, [])), (62, (19, 0, 0, 0, 0, 0, [])), (63, (6, 66, 1, 0, 0, 1, [])), (66, (12, 0, 10008, 0, 0, 0, [])), (69, (2, 70, 0, 0, 0, 0, [])), (70, (14, 73, 4, 2, 25, 0, [])), (73, (2, 74, 0, 0, 0, 0, [])), (74, (14, 77, 4, 1, 27, 0, [])), (77, (18, 80, 1, 1, 37, 0, [(0, 0)])), (80, (15, 83, 3, 4, 26, 0, [])), (83, (0, 84, 0, 0, 0, 0, [])), (84, (19, 0, 0, 0, 0, 0, []))]
def zu_X4_catchUp : List (Nat × List Nat) := [(0, [0]), (8, [0, 1])]
def zc_X4_addDecision : List (Nat × zO) := [(0, (2, 1, 0, 0, 0, 0, [])), (1, (14, 4, 4, 2, 25, 0, [])), (4, (14, 7, 3, 5, 29, 0, [])), (7, (32, 10, 12, 0, 0, 0, [])), (10, (0, 11, 0, 0, 0, 4, [])), (11, (19, 0, 0, 0, 0, 0, [])), (12, (2, 13, 0, 0, 0, 0, [])), (13, (14, 16, 4, 1, 27, 0, [])), (16, (18, 19, 1, 1, 37, 0, [(0, 0)])), (19, (4, 20, 2, 0, 0, 0, [])), (20, (2, 21, 0, 0, 0, 0, [])), (21, (14, 24, 4, 1, 27, 0, [])), (24, (0, 25, 0, 0, 0, 0, [])), (25, (0, 26, 0, 0, 0, 0, [])), (26, (1, 27, 1, 0, 0, 0, [])), (27, (18, 30, 7, 4, 42, 0, [(0, 0)])), (30, (32, 35, 33, 0, 0, 0, [])), (33, (0, 34, 0, 0, 0, 5, [])), (34, (19, 0, 0, 0, 0, 0, [])), (35, (2, 36, 0, 0, 0, 0, [])), (36, (14, 39, 4, 3, 30, 0, [])), (39, (2, 40, 0, 0, 0, 0, [])), (40, (14, 43, 4, 2, 25, 0, [])), (43, (30, 46, 52, 2, 43, 0, [(0, 3)])), (46, (2, 47, 0, 0, 0, 0, [])), (47, (1, 48, 2, 0, 0, 0, [])), (48, (0, 51, 0, 0, 0, 200, [])), (51, (0, 52, 0, 0, 0, 1, [])), (52, (30, 55, 57, 4, 40, 0, [(0, 4)])), (55, (2, 56, 0, 0, 0, 0, [])), (56, (14, 59, 4, 11, 28, 0, [])), (59, (32, 79, 62, 0, 0, 0, [])), (62, (2, 63, 0, 0, 0, 0, [])), (63, (14, 66, 4, 2, 25, 0, [])), (66, (2, 67, 0, 0, 0, 0, [])), (67, (14, 70, 4, 1, 27, 0, [])), (70, (18, 73, 1, 1, 37, 0, [(0, 0)])), (73, (15, 76, 3, 4, 26, 0, [])), (76, (12, 0, 98, 0, 0, 0, [])), (79, (2, 80, 0, 0, 0, 0, [])), (80, (14, 83, 4, 2, 25, 0, [])), (83, (2, 84, 0, 0, 0, 0, [])), (84, (14, 87, 4, 3, 30, 0, [])), (87, (30, 90, 52, 2, 43, 0, [(0, 3)])), (90, (2, 91, 0, 0, 0, 0, [])), (91, (14, 94, 4, 1, 27, 0, [])), (94, (1, 95, 2, 0, 0, 0, [])), (95, (30, 98, 9, 2, 44, 0, [(0, 0)])), (98, (2, 99, 0, 0, 0, 0, [])), (99, (14, 102, 4, 11, 28, 0, [])), (102, (19, 0, 0, 0, 0, 0, []))]
def zu_X4_addDecision : List (Nat × List Nat) := [(0, [0, 1])]
def zc_X4_runDecision : List (Nat × zO) := [(0, (2, 1, 0, 0, 0, 0, [])), (1, (1, 2, 1, 0, 0, 0, [])), (2, (15, 5, 4, 6, 31, 0, [])), (5, (2, 6, 0, 0, 0, 0, [])), (6, (1, 7, 1, 0, 0, 0, [])), (7, (0, 8, 0, 0, 0, 1, [])), (8, (7, 9, 0, 0, 0, 0, [])), (9, (15, 12, 4, 7, 32, 0, [])), (12, (2, 13, 0, 0, 0, 0, [])), (13, (1, 14, 2, 0, 0, 0, [])), (14, (15, 17, 4, 8, 33, 0, [])), (17, (2, 18, 0, 0, 0, 0, [])), (18, (1, 19, 3, 0, 0, 0, [])), (19, (31, 22, 4, 9, 34, 0, [])), (22, (2, 23, 0, 0, 0, 0, [])), (23, (0, 24, 0, 0, 0, 0, [])), (24, (31, 27, 4, 10, 35, 0, [])), (27, (2, 28, 0, 0, 0, 0, [])), (28, (0, 29, 0, 0, 0, 0, [])), (29, (15, 32, 4, 11, 28, 0, [])), (32, (2, 33, 0, 0, 0, 0, [])), (33, (14, 36, 4, 2, 25, 0, [])), (36, (0, 37, 0, 0, 0, 0, [])), (37, (15, 40, 3, 3, 36, 0, [])), (40, (0, 41, 0, 0, 0, 0, [])), (41, (4, 10043, 4, 0, 0, 0, [])), (43, (1, 45, 4, 0, 0, 0, [])), (45, (0, 48, 0, 0, 0, 12012, [])), (48, (36, 113, 51, 0, 0, 0, [])), (51, (2, 52, 0, 0, 0, 0, [])), (52, (14, 55, 4, 11, 28, 0, [])), (55, (32, 113, 58, 0, 0, 0, [])), (58, (2, 59, 0, 0, 0, 0, [])), (59, (14, 62, 4, 10, 35, 0, [])), (62, (32, 113, 65, 0, 0, 0, [])), (65, (2, 66, 0, 0, 0, 0, [])), (66, (14, 69, 4, 2, 25, 0, [])), (69, (14, 72, 3, 5, 29, 0, [])), (72, (32, 113, 75, 0, 0, 0, [])), (75, (2, 76, 0, 0, 0, 0, [])), (76, (2, 77, 0, 0, 0, 0, [])), (77, (14, 80, 4, 0, 37, 0, [])), (80, (2, 81, 0, 0, 0, 0, [])), (81, (14, 84, 4, 2, 25, 0, [])), (84, (14, 87, 3, 1, 38, 0, [])), (87, (18, 90, 27, 2, 45, 0, [(0, 1)])), (90, (2, 91, 0, 0, 0, 0, [])), (91, (14, 94, 4, 0, 37, 0, [])), (94, (2, 95, 0, 0, 0, 0, [])), (95, (14, 98, 4, 2, 25, 0, [])), (98, (14, 101, 3, 1, 38, 0, [])), (101, (18, 104, 29, 2, 46, 0, [(0, 1)])), (104, (30, 107, 58, 3, 47, 0, [(0, 4)])), (107, (6, 110, 4, 0, 0, 1, [])), (110, (12, 0, 10043, 0, 0, 0, [])), (113, (2, 114, 0, 0, 0, 0, [])), (114, (14, 117, 4, 11, 28, 0, [])), (117, (32, 136, 120, 0, 0, 0, [])), (120, (1, 121, 3, 0, 0, 0, [])), (121, (32, 136, 124, 0, 0, 0, [])), (124, (2, 125, 0, 0, 0, 0, [])), (125, (14, 128, 4, 7, 32, 0, [])), (128, (1, 129, 2, 0, 0, 0, [])), (129, (36, 136, 132, 0, 0, 0, [])), (132, (2, 133, 0, 0, 0, 0, [])), (133, (30, 136, 64, 1, 48, 0, [(0, 4)])), (136, (20, 0, 0, 0, 0, 0, []))]
def zu_X4_runDecision : List (Nat × List Nat) := [(0, [0, 1, 2, 3]), (43, [0, 2, 3, 4])]
def zc_X4_turn : List (Nat × zO) := [(0, (1, 1, 1, 0, 0, 0, [])), (1, (0, 3, 0, 0, 0, 12, [])), (3, (35, 6, 10016, 0, 0, 0, [])), (6, (1, 7, 1, 0, 0, 0, [])), (7, (0, 9, 0, 0, 0, 13, [])), (9, (35, 12, 10016, 0, 0, 0, [])), (12, (0, 13, 0, 0, 0, 1, [])), (13, (12, 0, 17, 0, 0, 0, [])), (16, (0, 17, 0, 0, 0, 0, [])), (17, (4, 18, 3, 0, 0, 0, [])), (18, (1, 19, 3, 0, 0, 0, [])), (19, (32, 22, 10041, 0, 0, 0, [])), (22, (2, 23, 0, 0, 0, 0, [])), (23, (14, 26, 4, 2, 25, 0, [])), (26, (14, 29, 3, 3, 36, 0, [])), (29, (0, 32, 0, 0, 0, 1000, [])), (32, (36, 35, 10041, 0, 0, 0, [])), (35, (2, 36, 0, 0, 0, 0, [])), (36, (0, 37, 0, 0, 0, 3, [])), (37, (15, 40, 4, 11, 28, 0, [])), (40, (20, 0, 0, 0, 0, 0, [])), (41, (2, 42, 0, 0, 0, 0, [])), (42, (14, 45, 4, 2, 25, 0, [])), (45, (21, 46, 0, 0, 0, 0, [])), (46, (14, 49, 3, 3, 36, 0, [])), (49, (1, 50, 3, 0, 0, 0, [])), (50, (32, 53, 57, 0, 0, 0, [])), (53, (0, 54, 0, 0, 0, 1, [])), (54, (12, 0, 58, 0, 0, 0, [])), (57, (0, 58, 0, 0, 0, 0, [])), (58, (7, 59, 0, 0, 0, 0, [])), (59, (15, 62, 3, 3, 36, 0, [])), (62, (1, 63, 1, 0, 0, 0, [])), (63, (13, 0, 10311, 0, 0, 0, [(0, 10132), (1, 10143), (2, 10156), (3, 10169), (4, 10184), (5, 10220), (6, 10248), (7, 10255), (8, 10273), (9, 10281), (10, 10311), (11, 10311), (12, 10300), (13, 10292)])), (132, (2, 133, 0, 0, 0, 0, [])), (133, (2, 134, 0, 0, 0, 0, [])), (134, (18, 137, 69, 1, 49, 0, [(0, 4)])), (137, (30, 140, 59, 2, 50, 0, [(0, 4)])), (140, (12, 0, 338, 0, 0, 0, [])), (143, (2, 144, 0, 0, 0, 0, [])), (144, (0, 145, 0, 0, 0, 1, [])), (145, (1, 146, 2, 0, 0, 0, [])), (146, (2, 147, 0, 0, 0, 0, [])), (147, (18, 150, 69, 1, 49, 0, [(0, 4)])), (150, (30, 153, 60, 4, 51, 0, [(0, 4)])), (153, (12, 0, 338, 0, 0, 0, [])), (156, (2, 157, 0, 0, 0, 0, [])), (157, (0, 158, 0, 0, 0, 2, [])), (158, (0, 159, 0, 0, 0, 0, [])), (159, (2, 160, 0, 0, 0, 0, [])), (160, (18, 163, 69, 1, 49, 0, [(0, 4)])), (163, (30, 166, 60, 4, 51, 0, [(0, 4)])), (166, (12, 0, 338, 0, 0, 0, [])), (169, (2, 170, 0, 0, 0, 0, [])), (170, (2, 171, 0, 0, 0, 0, [])), (171, (14, 174, 4, 2, 25, 0, [])), (174, (1, 175, 2, 0, 0, 0, [])), (175, (18, 178, 53, 2, 52, 0, [(0, 3)])), (178, (30, 181, 65, 2, 53, 0, [(0, 4)])), (181, (12, 0, 338, 0, 0, 0, [])), (184, (2, 185, 0, 0, 0, 0, [])), (185, (2, 186, 0, 0, 0, 0, [])), (186, (14, 189, 4, 2, 25, 0, [])), (189, (1, 190, 2, 0, 0, 0, [])), (190, (18, 193, 53, 2, 52, 0, [(0, 3)])), (193, (2, 194, 0, 0, 0, 0, [])), (194, (14, 197, 4, 2, 25, 0, [])), (197, (2, 198, 0, 0, 0, 0, [])), (198, (14, 201, 4, 0, 37, 0, [])), (201, (2, 202, 0, 0, 0, 0, [])), (202, (14, 205, 4, 2, 25, 0, [])), (205, (14, 208, 3, 1, 38, 0, [])), (208, (18, 211, 30, 2, 54, 0, [(0, 1)])), (211, (18, 214, 53, 2, 52, 0, [(0, 3)])), (214, (30, 217, 66, 3, 55, 0, [(0, 4)])), (217, (12, 0, 338, 0, 0, 0, [])), (220, (2, 221, 0, 0, 0, 0, [])), (221, (2, 222, 0, 0, 0, 0, [])), (222, (2, 223, 0, 0, 0, 0, [])), (223, (14, 226, 4, 2, 25, 0, [])), (226, (1, 227, 2, 0, 0, 0, [])), (227, (18, 230, 53, 2, 52, 0, [(0, 3)])), (230, (18, 233, 68, 2, 56, 0, [(0, 4)])), (233, (0, 234, 0, 0, 0, (-1), [])), (234, (35, 241, 237, 0, 0, 0, [])), (237, (0, 238, 0, 0, 0, 0, [])), (238, (12, 0, 242, 0, 0, 0, [])), (241, (0, 242, 0, 0, 0, 1, [])), (242, (30, 245, 59, 2, 50, 0, [(0, 4)])), (245, (12, 0, 338, 0, 0, 0, [])), (248, (2, 249, 0, 0, 0, 0, [])), (249, (30, 252, 67, 1, 57, 0, [(0, 4)])), (252, (12, 0, 338, 0, 0, 0, [])), (255, (2, 256, 0, 0, 0, 0, [])), (256, (2, 257, 0, 0, 0, 0, [])), (257, (14, 260, 4, 1, 27, 0, [])), (260, (2, 261, 0, 0, 0, 0, [])), (261, (14, 264, 4, 6, 31, 0, [])), (264, (18, 267, 5, 2, 58, 0, [(0, 0)])), (267, (30, 270, 59, 2, 50, 0, [(0, 4)])), (270, (12, 0, 338, 0, 0, 0, [])), (273, (2, 274, 0, 0, 0, 0, [])), (274, (1, 275, 2, 0, 0, 0, [])), (275, (30, 278, 62, 2, 59, 0, [(0, 4)])), (278, (12, 0, 338, 0, 0, 0, [])), (281, (2, 282, 0, 0, 0, 0, [])), (282, (2, 283, 0, 0, 0, 0, [])), (283, (18, 286, 69, 1, 49, 0, [(0, 4)])), (286, (30, 289, 61, 2, 60, 0, [(0, 4)])), (289, (12, 0, 338, 0, 0, 0, [])), (292, (2, 293, 0, 0, 0, 0, [])), (293, (0, 294, 0, 0, 0, 0, [])), (294, (30, 297, 61, 2, 60, 0, [(0, 4)])), (297, (12, 0, 338, 0, 0, 0, [])), (300, (2, 301, 0, 0, 0, 0, [])), (301, (14, 304, 4, 2, 25, 0, [])), (304, (1, 305, 2, 0, 0, 0, [])), (305, (15, 308, 3, 1, 38, 0, [])), (308, (12, 0, 338, 0, 0, 0, [])), (311, (2, 312, 0, 0, 0, 0, [])), (312, (14, 315, 4, 2, 25, 0, [])), (315, (2, 316, 0, 0, 0, 0, [])), (316, (18, 319, 69, 1, 49, 0, [(0, 4)])), (319, (32, 322, 334, 0, 0, 0, [])), (322, (2, 323, 0, 0, 0, 0, [])), (323, (14, 326, 4, 2, 25, 0, [])), (326, (14, 329, 3, 1, 38, 0, [])), (329, (0, 330, 0, 0, 0, 1, [])), (330, (7, 331, 0, 0, 0, 0, [])), (331, (12, 0, 335, 0, 0, 0, [])), (334, (1, 335, 2, 0, 0, 0, [])), (335, (15, 338, 3, 1, 38, 0, [])), (338, (20, 0, 0, 0, 0, 0, []))]
def zu_X4_turn : List (Nat × List Nat) := [(0, [0, 1, 2]), (16, [0, 1, 2]), (41, [0, 1, 2, 3]), (132, [0]), (143, [0, 2]), (156, [0]), (169, [0, 2]), (184, [0, 2]), (220, [0, 2]), (248, [0]), (255, [0]), (273, [0, 2]), (281, [0]), (292, [0]), (300, [0, 2]), (311, [0, 2])]
def zc_X4_finish : List (Nat × zO) := [(0, (2, 1, 0, 0, 0, 0, [])), (1, (14, 4, 4, 2, 25, 0, [])), (4, (2, 5, 0, 0, 0, 0, [])), (5, (14, 8, 4, 0, 37, 0, [])), (8, (2, 9, 0, 0, 0, 0, [])), (9, (14, 12, 4, 2, 25, 0, [])), (12, (14, 15, 3, 1, 38, 0, [])), (15, (18, 18, 28, 2, 61, 0, [(0, 1)])), (18, (1, 19, 1, 0, 0, 0, [])), (19, (30, 22, 54, 3, 62, 0, [(0, 3)])), (22, (2, 23, 0, 0, 0, 0, [])), (23, (14, 26, 4, 2, 25, 0, [])), (26, (21, 27, 0, 0, 0, 0, [])), (27, (14, 30, 3, 1, 38, 0, [])), (30, (0, 31, 0, 0, 0, 1, [])), (31, (7, 32, 0, 0, 0, 0, [])), (32, (15, 35, 3, 1, 38, 0, [])), (35, (20, 0, 0, 0, 0, 0, []))]
def zu_X4_finish : List (Nat × List Nat) := [(0, [0, 1])]
def zc_X4_order : List (Nat × zO) := [(0, (2, 1, 0, 0, 0, 0, [])), (1, (14, 4, 4, 7, 32, 0, [])), (4, (4, 6, 4, 0, 0, 0, [])), (6, (2, 7, 0, 0, 0, 0, [])), (7, (1, 8, 1, 0, 0, 0, [])), (8, (1, 9, 2, 0, 0, 0, [])), (9, (1, 10, 3, 0, 0, 0, [])), (10, (18, 13, 63, 4, 63, 0, [(0, 4)])), (13, (32, 16, 22, 0, 0, 0, [])), (16, (2, 17, 0, 0, 0, 0, [])), (17, (1, 19, 4, 0, 0, 0, [])), (19, (30, 22, 59, 2, 50, 0, [(0, 4)])), (22, (20, 0, 0, 0, 0, 0, []))]
def zu_X4_order : List (Nat × List Nat) := [(0, [0, 1, 2, 3])]
def zc_X4_stop : List (Nat × zO) := [(0, (2, 1, 0, 0, 0, 0, [])), (1, (0, 2, 0, 0, 0, 4, [])), (2, (0, 3, 0, 0, 0, 0, [])), (3, (1, 4, 1, 0, 0, 0, [])), (4, (18, 7, 63, 4, 63, 0, [(0, 4)])), (7, (32, 10, 18, 0, 0, 0, [])), (10, (2, 11, 0, 0, 0, 0, [])), (11, (14, 14, 4, 2, 25, 0, [])), (14, (0, 15, 0, 0, 0, 1, [])), (15, (31, 18, 3, 5, 29, 0, [])), (18, (20, 0, 0, 0, 0, 0, []))]
def zu_X4_stop : List (Nat × List Nat) := [(0, [0, 1])]
def zc_X4_patch : List (Nat × zO) := [(0, (2, 1, 0, 0, 0, 0, [])), (1, (14, 4, 4, 7, 32, 0, [])), (4, (2, 5, 0, 0, 0, 0, [])), (5, (14, 8, 4, 8, 33, 0, [])), (8, (36, 32, 11, 0, 0, 0, [])), (11, (2, 12, 0, 0, 0, 0, [])), (12, (14, 15, 4, 1, 27, 0, [])), (15, (2, 16, 0, 0, 0, 0, [])), (16, (14, 19, 4, 7, 32, 0, [])), (19, (0, 20, 0, 0, 0, 3, [])), (20, (1, 21, 1, 0, 0, 0, [])), (21, (0, 22, 0, 0, 0, 0, [])), (22, (18, 25, 11, 5, 64, 0, [(0, 0)])), (25, (32, 28, 32, 0, 0, 0, [])), (28, (0, 29, 0, 0, 0, 1, [])), (29, (12, 0, 33, 0, 0, 0, [])), (32, (0, 33, 0, 0, 0, 0, [])), (33, (4, 34, 2, 0, 0, 0, [])), (34, (2, 35, 0, 0, 0, 0, [])), (35, (14, 38, 4, 9, 34, 0, [])), (38, (32, 53, 41, 0, 0, 0, [])), (41, (1, 42, 2, 0, 0, 0, [])), (42, (32, 53, 45, 0, 0, 0, [])), (45, (2, 46, 0, 0, 0, 0, [])), (46, (0, 47, 0, 0, 0, 0, [])), (47, (30, 50, 59, 2, 50, 0, [(0, 4)])), (50, (12, 0, 68, 0, 0, 0, [])), (53, (2, 54, 0, 0, 0, 0, [])), (54, (0, 55, 0, 0, 0, 3, [])), (55, (1, 56, 1, 0, 0, 0, [])), (56, (0, 57, 0, 0, 0, 0, [])), (57, (18, 60, 63, 4, 63, 0, [(0, 4)])), (60, (32, 63, 68, 0, 0, 0, [])), (63, (2, 64, 0, 0, 0, 0, [])), (64, (0, 65, 0, 0, 0, 1, [])), (65, (30, 68, 59, 2, 50, 0, [(0, 4)])), (68, (20, 0, 0, 0, 0, 0, []))]
def zu_X4_patch : List (Nat × List Nat) := [(0, [0, 1])]
def zc_X4_want : List (Nat × zO) := [(0, (2, 1, 0, 0, 0, 0, [])), (1, (14, 4, 4, 9, 34, 0, [])), (4, (32, 7, 27, 0, 0, 0, [])), (7, (2, 8, 0, 0, 0, 0, [])), (8, (14, 11, 4, 1, 27, 0, [])), (11, (1, 12, 1, 0, 0, 0, [])), (12, (1, 13, 2, 0, 0, 0, [])), (13, (1, 14, 3, 0, 0, 0, [])), (14, (18, 17, 7, 4, 42, 0, [(0, 0)])), (17, (32, 61, 20, 0, 0, 0, [])), (20, (2, 21, 0, 0, 0, 0, [])), (21, (0, 22, 0, 0, 0, 5, [])), (22, (15, 25, 4, 11, 28, 0, [])), (25, (0, 26, 0, 0, 0, 0, [])), (26, (19, 0, 0, 1, 0, 0, [])), (27, (2, 28, 0, 0, 0, 0, [])), (28, (14, 31, 4, 7, 32, 0, [])), (31, (2, 32, 0, 0, 0, 0, [])), (32, (14, 35, 4, 8, 33, 0, [])), (35, (36, 55, 38, 0, 0, 0, [])), (38, (2, 39, 0, 0, 0, 0, [])), (39, (14, 42, 4, 1, 27, 0, [])), (42, (2, 43, 0, 0, 0, 0, [])), (43, (14, 46, 4, 7, 32, 0, [])), (46, (1, 47, 1, 0, 0, 0, [])), (47, (1, 48, 2, 0, 0, 0, [])), (48, (1, 49, 3, 0, 0, 0, [])), (49, (18, 52, 11, 5, 64, 0, [(0, 0)])), (52, (32, 61, 55, 0, 0, 0, [])), (55, (2, 56, 0, 0, 0, 0, [])), (56, (30, 59, 64, 1, 48, 0, [(0, 4)])), (59, (0, 60, 0, 0, 0, 0, [])), (60, (19, 0, 0, 1, 0, 0, [])), (61, (2, 62, 0, 0, 0, 0, [])), (62, (21, 63, 0, 0, 0, 0, [])), (63, (14, 66, 4, 7, 32, 0, [])), (66, (0, 67, 0, 0, 0, 1, [])), (67, (7, 68, 0, 0, 0, 0, [])), (68, (15, 71, 4, 7, 32, 0, [])), (71, (0, 72, 0, 0, 0, 1, [])), (72, (19, 0, 0, 1, 0, 0, []))]
def zu_X4_want : List (Nat × List Nat) := [(0, [0, 1, 2, 3])]
def zc_X4_differ : List (Nat × zO) := [(0, (2, 1, 0, 0, 0, 0, [])), (1, (0, 2, 0, 0, 0, 2, [])), (2, (15, 5, 4, 11, 28, 0, [])), (5, (2, 6, 0, 0, 0, 0, [])), (6, (2, 7, 0, 0, 0, 0, [])), (7, (14, 10, 4, 7, 32, 0, [])), (10, (15, 13, 4, 12, 39, 0, [])), (13, (20, 0, 0, 0, 0, 0, []))]
def zu_X4_differ : List (Nat × List Nat) := [(0, [0])]
def zc_X4_waitFor : List (Nat × zO) := [(0, (2, 1, 0, 0, 0, 0, [])), (1, (1, 2, 1, 0, 0, 0, [])), (2, (18, 5, 68, 2, 56, 0, [(0, 4)])), (5, (4, 6, 2, 0, 0, 0, [])), (6, (1, 7, 2, 0, 0, 0, [])), (7, (0, 8, 0, 0, 0, (-1), [])), (8, (35, 19, 11, 0, 0, 0, [])), (11, (2, 12, 0, 0, 0, 0, [])), (12, (0, 13, 0, 0, 0, 1, [])), (13, (31, 16, 4, 10, 35, 0, [])), (16, (12, 0, 63, 0, 0, 0, [])), (19, (1, 20, 2, 0, 0, 0, [])), (20, (0, 22, 0, 0, 0, (-2), [])), (22, (35, 34, 25, 0, 0, 0, [])), (25, (2, 26, 0, 0, 0, 0, [])), (26, (0, 28, 0, 0, 0, (-2), [])), (28, (30, 31, 59, 2, 50, 0, [(0, 4)])), (31, (12, 0, 63, 0, 0, 0, [])), (34, (2, 35, 0, 0, 0, 0, [])), (35, (2, 36, 0, 0, 0, 0, [])), (36, (14, 39, 4, 1, 27, 0, [])), (39, (1, 40, 2, 0, 0, 0, [])), (40, (18, 43, 3, 2, 38, 0, [(0, 0)])), (43, (0, 45, 0, 0, 0, 6, [])), (45, (35, 52, 48, 0, 0, 0, [])), (48, (0, 49, 0, 0, 0, (-1), [])), (49, (12, 0, 60, 0, 0, 0, [])), (52, (2, 53, 0, 0, 0, 0, [])), (53, (14, 56, 4, 1, 27, 0, [])), (56, (1, 57, 2, 0, 0, 0, [])), (57, (18, 60, 5, 2, 58, 0, [(0, 0)])), (60, (30, 63, 59, 2, 50, 0, [(0, 4)])), (63, (20, 0, 0, 0, 0, 0, []))]
def zu_X4_waitFor : List (Nat × List Nat) := [(0, [0, 1])]
def zc_X4_waitForAny : List (Nat × zO) := [(0, (2, 1, 0, 0, 0, 0, [])), (1, (1, 2, 1, 0, 0, 0, [])), (2, (18, 5, 68, 2, 56, 0, [(0, 4)])), (5, (0, 6, 0, 0, 0, (-1), [])), (6, (35, 9, 17, 0, 0, 0, [])), (9, (2, 10, 0, 0, 0, 0, [])), (10, (0, 11, 0, 0, 0, 1, [])), (11, (30, 14, 59, 2, 50, 0, [(0, 4)])), (14, (12, 0, 39, 0, 0, 0, [])), (17, (2, 18, 0, 0, 0, 0, [])), (18, (1, 19, 2, 0, 0, 0, [])), (19, (18, 22, 68, 2, 56, 0, [(0, 4)])), (22, (0, 23, 0, 0, 0, (-1), [])), (23, (35, 26, 34, 0, 0, 0, [])), (26, (2, 27, 0, 0, 0, 0, [])), (27, (0, 28, 0, 0, 0, 2, [])), (28, (30, 31, 59, 2, 50, 0, [(0, 4)])), (31, (12, 0, 39, 0, 0, 0, [])), (34, (2, 35, 0, 0, 0, 0, [])), (35, (0, 36, 0, 0, 0, 1, [])), (36, (31, 39, 4, 10, 35, 0, [])), (39, (20, 0, 0, 0, 0, 0, []))]
def zu_X4_waitForAny : List (Nat × List Nat) := [(0, [0, 1, 2])]
def zc_X4_takeSignal : List (Nat × zO) := [(0, (2, 1, 0, 0, 0, 0, [])), (1, (14, 4, 4, 1, 27, 0, [])), (4, (2, 5, 0, 0, 0, 0, [])), (5, (14, 8, 4, 2, 25, 0, [])), (8, (14, 11, 3, 2, 40, 0, [])), (11, (2, 12, 0, 0, 0, 0, [])), (12, (14, 15, 4, 6, 31, 0, [])), (15, (18, 18, 13, 3, 65, 0, [(0, 0)])), (18, (4, 19, 1, 0, 0, 0, [])), (19, (1, 20, 1, 0, 0, 0, [])), (20, (0, 21, 0, 0, 0, (-1), [])), (21, (35, 32, 24, 0, 0, 0, [])), (24, (2, 25, 0, 0, 0, 0, [])), (25, (0, 26, 0, 0, 0, 1, [])), (26, (31, 29, 4, 10, 35, 0, [])), (29, (12, 0, 57, 0, 0, 0, [])), (32, (2, 33, 0, 0, 0, 0, [])), (33, (14, 36, 4, 2, 25, 0, [])), (36, (21, 37, 0, 0, 0, 0, [])), (37, (14, 40, 3, 2, 40, 0, [])), (40, (0, 41, 0, 0, 0, 1, [])), (41, (7, 42, 0, 0, 0, 0, [])), (42, (15, 45, 3, 2, 40, 0, [])), (45, (2, 46, 0, 0, 0, 0, [])), (46, (2, 47, 0, 0, 0, 0, [])), (47, (14, 50, 4, 1, 27, 0, [])), (50, (1, 51, 1, 0, 0, 0, [])), (51, (18, 54, 5, 2, 58, 0, [(0, 0)])), (54, (30, 57, 59, 2, 50, 0, [(0, 4)])), (57, (20, 0, 0, 0, 0, 0, []))]
def zu_X4_takeSignal : List (Nat × List Nat) := [(0, [0])]
def zc_X4_endOf : List (Nat × zO) := [(0, (2, 1, 0, 0, 0, 0, [])), (1, (14, 4, 4, 1, 27, 0, [])), (4, (1, 5, 1, 0, 0, 0, [])), (5, (18, 8, 3, 2, 38, 0, [(0, 0)])), (8, (4, 9, 2, 0, 0, 0, [])), (9, (1, 10, 1, 0, 0, 0, [])), (10, (2, 11, 0, 0, 0, 0, [])), (11, (14, 14, 4, 7, 32, 0, [])), (14, (36, 27, 17, 0, 0, 0, [])), (17, (1, 18, 2, 0, 0, 0, [])), (18, (0, 19, 0, 0, 0, 1, [])), (19, (35, 22, 30, 0, 0, 0, [])), (22, (1, 23, 2, 0, 0, 0, [])), (23, (0, 24, 0, 0, 0, 2, [])), (24, (35, 27, 30, 0, 0, 0, [])), (27, (0, 29, 0, 0, 0, (-2), [])), (29, (19, 0, 0, 0, 0, 0, [])), (30, (2, 31, 0, 0, 0, 0, [])), (31, (14, 34, 4, 1, 27, 0, [])), (34, (1, 35, 1, 0, 0, 0, [])), (35, (2, 36, 0, 0, 0, 0, [])), (36, (14, 39, 4, 6, 31, 0, [])), (39, (18, 42, 12, 3, 66, 0, [(0, 0)])), (42, (19, 0, 0, 0, 0, 0, []))]
def zu_X4_endOf : List (Nat × List Nat) := [(0, [0, 1])]
def zc_X4_workOut : List (Nat × zO) := [(0, (2, 1, 0, 0, 0, 0, [])), (1, (14, 4, 4, 0, 37, 0, [])), (4, (2, 5, 0, 0, 0, 0, [])), (5, (14, 8, 4, 2, 25, 0, [])), (8, (14, 11, 3, 1, 38, 0, [])), (11, (18, 14, 32, 2, 67, 0, [(0, 1)])), (14, (4, 15, 1, 0, 0, 0, [])), (15, (2, 16, 0, 0, 0, 0, [])), (16, (0, 17, 0, 0, 0, 0, [])), (17, (15, 20, 4, 5, 41, 0, [])), (20, (2, 21, 0, 0, 0, 0, [])), (21, (14, 24, 4, 0, 37, 0, [])), (24, (2, 25, 0, 0, 0, 0, [])), (25, (14, 28, 4, 2, 25, 0, [])), (28, (14, 31, 3, 1, 38, 0, [])), (31, (18, 34, 31, 2, 68, 0, [(0, 1)])), (34, (4, 10035, 2, 0, 0, 0, [])), (35, (1, 36, 2, 0, 0, 0, [])), (36, (1, 37, 1, 0, 0, 0, [])), (37, (36, 66, 40, 0, 0, 0, [])), (40, (2, 41, 0, 0, 0, 0, [])), (41, (2, 42, 0, 0, 0, 0, [])), (42, (14, 45, 4, 0, 37, 0, [])), (45, (1, 46, 2, 0, 0, 0, [])), (46, (18, 49, 33, 2, 69, 0, [(0, 1)])), (49, (2, 50, 0, 0, 0, 0, [])), (50, (14, 53, 4, 0, 37, 0, [])), (53, (1, 54, 2, 0, 0, 0, [])), (54, (18, 57, 34, 2, 70, 0, [(0, 1)])), (57, (30, 60, 70, 3, 71, 0, [(0, 4)])), (60, (6, 63, 2, 0, 0, 1, [])), (63, (12, 0, 10035, 0, 0, 0, [])), (66, (2, 67, 0, 0, 0, 0, [])), (67, (18, 70, 73, 1, 72, 0, [(0, 4)])), (70, (19, 0, 0, 0, 0, 0, []))]
def zu_X4_workOut : List (Nat × List Nat) := [(0, [0]), (35, [0, 1, 2])]
def zc_X4_work : List (Nat × zO) := [(0, (1, 1, 1, 0, 0, 0, [])), (1, (32, 12, 4, 0, 0, 0, [])), (4, (2, 5, 0, 0, 0, 0, [])), (5, (1, 6, 2, 0, 0, 0, [])), (6, (30, 9, 72, 2, 73, 0, [(0, 4)])), (9, (12, 0, 71, 0, 0, 0, [])), (12, (1, 13, 1, 0, 0, 0, [])), (13, (0, 14, 0, 0, 0, 1, [])), (14, (35, 32, 17, 0, 0, 0, [])), (17, (2, 18, 0, 0, 0, 0, [])), (18, (2, 19, 0, 0, 0, 0, [])), (19, (14, 22, 4, 2, 25, 0, [])), (22, (1, 23, 2, 0, 0, 0, [])), (23, (18, 26, 53, 2, 52, 0, [(0, 3)])), (26, (30, 29, 72, 2, 73, 0, [(0, 4)])), (29, (12, 0, 71, 0, 0, 0, [])), (32, (1, 33, 1, 0, 0, 0, [])), (33, (0, 34, 0, 0, 0, 2, [])), (34, (35, 49, 37, 0, 0, 0, [])), (37, (2, 38, 0, 0, 0, 0, [])), (38, (2, 39, 0, 0, 0, 0, [])), (39, (18, 42, 73, 1, 72, 0, [(0, 4)])), (42, (8, 43, 0, 0, 0, 0, [])), (43, (30, 46, 72, 2, 73, 0, [(0, 4)])), (46, (12, 0, 71, 0, 0, 0, [])), (49, (2, 50, 0, 0, 0, 0, [])), (50, (18, 53, 73, 1, 72, 0, [(0, 4)])), (53, (4, 54, 3, 0, 0, 0, [])), (54, (2, 55, 0, 0, 0, 0, [])), (55, (18, 58, 73, 1, 72, 0, [(0, 4)])), (58, (4, 60, 4, 0, 0, 0, [])), (60, (2, 61, 0, 0, 0, 0, [])), (61, (1, 62, 1, 0, 0, 0, [])), (62, (1, 64, 4, 0, 0, 0, [])), (64, (1, 65, 3, 0, 0, 0, [])), (65, (18, 68, 71, 3, 74, 0, [])), (68, (30, 71, 72, 2, 73, 0, [(0, 4)])), (71, (20, 0, 0, 0, 0, 0, []))]
def zu_X4_work : List (Nat × List Nat) := [(0, [0, 1, 2])]
def zc_X4_join : List (Nat × zO) := [(0, (1, 1, 0, 0, 0, 0, [])), (1, (13, 0, 47, 0, 0, 0, [(3, 28), (4, 39), (5, 43)])), (28, (1, 29, 1, 0, 0, 0, [])), (29, (1, 30, 2, 0, 0, 0, [])), (30, (36, 37, 33, 0, 0, 0, [])), (33, (0, 34, 0, 0, 0, 1, [])), (34, (12, 0, 38, 0, 0, 0, [])), (37, (0, 38, 0, 0, 0, 0, [])), (38, (19, 0, 0, 0, 0, 0, [])), (39, (1, 40, 1, 0, 0, 0, [])), (40, (1, 41, 2, 0, 0, 0, [])), (41, (7, 42, 0, 0, 0, 0, [])), (42, (19, 0, 0, 0, 0, 0, [])), (43, (1, 44, 1, 0, 0, 0, [])), (44, (1, 45, 2, 0, 0, 0, [])), (45, (7, 46, 0, 1, 0, 0, [])), (46, (19, 0, 0, 0, 0, 0, [])), (47, (1, 48, 1, 0, 0, 0, [])), (48, (1, 49, 2, 0, 0, 0, [])), (49, (7, 50, 0, 2, 0, 0, [])), (50, (19, 0, 0, 0, 0, 0, []))]
def zu_X4_join : List (Nat × List Nat) := [(0, [0, 1, 2])]
def zc_X4_push : List (Nat × zO) := [(0, (2, 1, 0, 0, 0, 0, [])), (1, (14, 4, 4, 5, 41, 0, [])), (4, (33, 7, 36, 0, 0, 0, [])), (7, (2, 8, 0, 0, 0, 0, [])), (8, (14, 11, 4, 5, 41, 0, [])), (11, (0, 13, 0, 0, 0, 34, [])), (13, (36, 36, 16, 0, 0, 0, [])), (16, (2, 17, 0, 0, 0, 0, [])), (17, (14, 20, 4, 4, 42, 0, [])), (20, (2, 21, 0, 0, 0, 0, [])), (21, (14, 24, 4, 5, 41, 0, [])), (24, (1, 25, 1, 0, 0, 0, [])), (25, (17, 26, 0, 0, 0, 0, [])), (26, (2, 27, 0, 0, 0, 0, [])), (27, (21, 28, 0, 0, 0, 0, [])), (28, (14, 31, 4, 5, 41, 0, [])), (31, (0, 32, 0, 0, 0, 1, [])), (32, (7, 33, 0, 0, 0, 0, [])), (33, (15, 36, 4, 5, 41, 0, [])), (36, (20, 0, 0, 0, 0, 0, []))]
def zu_X4_push : List (Nat × List Nat) := [(0, [0, 1])]
def zc_X4_pop : List (Nat × zO) := [(0, (2, 1, 0, 0, 0, 0, [])), (1, (14, 4, 4, 5, 41, 0, [])), (4, (0, 5, 0, 0, 0, 1, [])), (5, (36, 8, 17, 0, 0, 0, [])), (8, (2, 9, 0, 0, 0, 0, [])), (9, (14, 12, 4, 5, 41, 0, [])), (12, (0, 14, 0, 0, 0, 34, [])), (14, (37, 19, 17, 0, 0, 0, [])), (17, (0, 18, 0, 0, 0, 0, [])), (18, (19, 0, 0, 0, 0, 0, [])), (19, (2, 20, 0, 0, 0, 0, [])), (20, (21, 21, 0, 0, 0, 0, [])), (21, (14, 24, 4, 5, 41, 0, [])), (24, (0, 25, 0, 0, 0, 1, [])), (25, (7, 26, 0, 1, 0, 0, [])), (26, (15, 29, 4, 5, 41, 0, [])), (29, (2, 30, 0, 0, 0, 0, [])), (30, (14, 33, 4, 4, 42, 0, [])), (33, (2, 34, 0, 0, 0, 0, [])), (34, (14, 37, 4, 5, 41, 0, [])), (37, (16, 38, 0, 0, 0, 0, [])), (38, (19, 0, 0, 0, 0, 0, []))]
def zu_X4_pop : List (Nat × List Nat) := [(0, [0])]
def zc_X5_put : List (Nat × zO) := [(0, (1, 1, 3, 0, 0, 0, [])), (1, (0, 2, 0, 0, 0, 1, [])), (2, (36, 5, 23, 0, 0, 0, [])), (5, (1, 6, 3, 0, 0, 0, [])), (6, (0, 8, 0, 0, 0, 8, [])), (8, (37, 11, 23, 0, 0, 0, [])), (11, (1, 12, 3, 0, 0, 0, [])), (12, (0, 15, 0, 0, 0, 400, [])), (15, (2, 16, 0, 0, 0, 0, [])), (16, (14, 19, 5, 1, 43, 0, [])), (19, (7, 20, 0, 1, 0, 0, [])), (20, (37, 25, 23, 0, 0, 0, [])), (23, (0, 24, 0, 0, 0, 0, [])), (24, (19, 0, 0, 1, 0, 0, [])), (25, (0, 26, 0, 0, 0, 0, [])), (26, (4, 10028, 4, 0, 0, 0, [])), (28, (1, 30, 4, 0, 0, 0, [])), (30, (1, 31, 3, 0, 0, 0, [])), (31, (36, 64, 34, 0, 0, 0, [])), (34, (3, 35, 1, 0, 0, 0, [])), (35, (1, 37, 4, 0, 0, 0, [])), (37, (18, 40, 78, 2, 75, 0, [])), (40, (4, 42, 5, 0, 0, 0, [])), (42, (1, 44, 5, 0, 0, 0, [])), (44, (0, 46, 0, 0, 0, 32, [])), (46, (36, 49, 56, 0, 0, 0, [])), (49, (1, 51, 5, 0, 0, 0, [])), (51, (0, 53, 0, 0, 0, 126, [])), (53, (37, 58, 56, 0, 0, 0, [])), (56, (0, 57, 0, 0, 0, 0, [])), (57, (19, 0, 0, 1, 0, 0, [])), (58, (6, 61, 4, 0, 0, 1, [])), (61, (12, 0, 10028, 0, 0, 0, [])), (64, (1, 65, 3, 0, 0, 0, [])), (65, (0, 66, 0, 0, 0, 1, [])), (66, (7, 67, 0, 1, 0, 0, [])), (67, (4, 10069, 4, 0, 0, 0, [])), (69, (1, 71, 4, 0, 0, 0, [])), (71, (33, 74, 116, 0, 0, 0, [])), (74, (2, 75, 0, 0, 0, 0, [])), (75, (14, 78, 5, 1, 43, 0, [])), (78, (0, 81, 0, 0, 0, 400, [])), (81, (36, 116, 84, 0, 0, 0, [])), (84, (2, 85, 0, 0, 0, 0, [])), (85, (14, 88, 5, 0, 44, 0, [])), (88, (2, 89, 0, 0, 0, 0, [])), (89, (14, 92, 5, 1, 43, 0, [])), (92, (3, 93, 1, 0, 0, 0, [])), (93, (1, 95, 4, 0, 0, 0, [])), (95, (18, 98, 78, 2, 75, 0, [])), (98, (8, 99, 0, 1, 0, 0, [])), (99, (17, 100, 0, 1, 0, 0, [])), (100, (2, 101, 0, 0, 0, 0, [])), (101, (21, 102, 0, 0, 0, 0, [])), (102, (14, 105, 5, 1, 43, 0, [])), (105, (0, 106, 0, 0, 0, 1, [])), (106, (7, 107, 0, 0, 0, 0, [])), (107, (15, 110, 5, 1, 43, 0, [])), (110, (6, 113, 4, 0, 0, (-1), [])), (113, (12, 0, 10069, 0, 0, 0, [])), (116, (0, 117, 0, 0, 0, 1, [])), (117, (19, 0, 0, 1, 0, 0, []))]
def zu_X5_put : List (Nat × List Nat) := [(0, [0, 1, 3]), (28, [0, 1, 3, 4]), (69, [0, 1, 4])]
def zc_X5_wipe : List (Nat × zO) := [(0, (2, 1, 0, 0, 0, 0, [])), (1, (0, 2, 0, 0, 0, 0, [])), (2, (15, 5, 5, 1, 43, 0, [])), (5, (20, 0, 0, 0, 0, 0, []))]
def zu_X5_wipe : List (Nat × List Nat) := [(0, [0])]
def zc_X5_length : List (Nat × zO) := [(0, (2, 1, 0, 0, 0, 0, [])), (1, (14, 4, 5, 1, 43, 0, [])), (4, (19, 0, 0, 0, 0, 0, []))]
def zu_X5_length : List (Nat × List Nat) := [(0, [0])]
def zc_X5_at : List (Nat × zO) := [(0, (1, 1, 1, 0, 0, 0, [])), (1, (33, 4, 21, 0, 0, 0, [])), (4, (1, 5, 1, 0, 0, 0, [])), (5, (2, 6, 0, 0, 0, 0, [])), (6, (14, 9, 5, 1, 43, 0, [])), (9, (36, 21, 12, 0, 0, 0, [])), (12, (2, 13, 0, 0, 0, 0, [])), (13, (14, 16, 5, 0, 44, 0, [])), (16, (1, 17, 1, 0, 0, 0, [])), (17, (16, 18, 0, 1, 0, 0, [])), (18, (12, 0, 22, 0, 0, 0, [])), (21, (0, 22, 0, 0, 0, (-1), [])), (22, (19, 0, 0, 0, 0, 0, []))]
def zu_X5_at : List (Nat × List Nat) := [(0, [0, 1])]
def zc_X5_byteOf : List (Nat × zO) := [(0, (3, 1, 0, 0, 0, 0, [])), (1, (0, 3, 0, 0, 0, 8, [])), (3, (1, 4, 2, 0, 0, 0, [])), (4, (7, 5, 0, 2, 0, 0, [])), (5, (9, 6, 0, 1, 0, 0, [])), (6, (9, 7, 0, 3, 0, 0, [])), (7, (0, 10, 0, 0, 0, 255, [])), (10, (7, 11, 0, 3, 0, 0, [])), (11, (19, 0, 0, 0, 0, 0, []))]
def zu_X5_byteOf : List (Nat × List Nat) := [(0, [0, 2])]
def zc_X6_scan : List (Nat × zO) := [(0, (2, 1, 0, 0, 0, 0, [])), (1, (0, 2, 0, 0, 0, 0, [])), (2, (15, 5, 6, 3, 45, 0, [])), (5, (2, 6, 0, 0, 0, 0, [])), (6, (0, 7, 0, 0, 0, 0, [])), (7, (15, 10, 6, 4, 46, 0, [])), (10, (0, 11, 0, 0, 0, 0, [])), (11, (4, 10012, 2, 0, 0, 0, [])), (12, (1, 13, 2, 0, 0, 0, [])), (13, (2, 14, 1, 0, 0, 0, [])), (14, (18, 17, 76, 1, 76, 0, [(0, 5)])), (17, (36, 40, 20, 0, 0, 0, [])), (20, (2, 21, 1, 0, 0, 0, [])), (21, (1, 22, 2, 0, 0, 0, [])), (22, (18, 25, 90, 2, 77, 0, [])), (25, (32, 28, 34, 0, 0, 0, [])), (28, (2, 29, 0, 0, 0, 0, [])), (29, (2, 30, 1, 0, 0, 0, [])), (30, (1, 31, 2, 0, 0, 0, [])), (31, (30, 34, 87, 3, 78, 0, [(0, 6)])), (34, (6, 37, 2, 0, 0, 1, [])), (37, (12, 0, 10012, 0, 0, 0, [])), (40, (2, 41, 0, 0, 0, 0, [])), (41, (0, 42, 0, 0, 0, 0, [])), (42, (2, 43, 1, 0, 0, 0, [])), (43, (18, 46, 76, 1, 76, 0, [(0, 5)])), (46, (0, 47, 0, 0, 0, 0, [])), (47, (30, 50, 86, 4, 79, 0, [(0, 6)])), (50, (20, 0, 0, 0, 0, 0, []))]
def zu_X6_scan : List (Nat × List Nat) := [(0, [0, 1]), (12, [0, 1, 2])]
def zc_X6_kind : List (Nat × zO) := [(0, (2, 1, 0, 0, 0, 0, [])), (1, (14, 4, 6, 4, 46, 0, [])), (4, (2, 5, 0, 0, 0, 0, [])), (5, (14, 8, 6, 3, 45, 0, [])), (8, (36, 23, 11, 0, 0, 0, [])), (11, (2, 12, 0, 0, 0, 0, [])), (12, (14, 15, 6, 0, 47, 0, [])), (15, (2, 16, 0, 0, 0, 0, [])), (16, (14, 19, 6, 4, 46, 0, [])), (19, (16, 20, 0, 0, 0, 0, [])), (20, (12, 0, 24, 0, 0, 0, [])), (23, (0, 24, 0, 0, 0, 0, [])), (24, (19, 0, 0, 0, 0, 0, []))]
def zu_X6_kind : List (Nat × List Nat) := [(0, [0])]
def zc_X6_place : List (Nat × zO) := [(0, (2, 1, 0, 0, 0, 0, [])), (1, (14, 4, 6, 4, 46, 0, [])), (4, (2, 5, 0, 0, 0, 0, [])), (5, (14, 8, 6, 3, 45, 0, [])), (8, (36, 23, 11, 0, 0, 0, [])), (11, (2, 12, 0, 0, 0, 0, [])), (12, (14, 15, 6, 1, 48, 0, [])), (15, (2, 16, 0, 0, 0, 0, [])), (16, (14, 19, 6, 4, 46, 0, [])), (19, (16, 20, 0, 0, 0, 0, [])), (20, (12, 0, 24, 0, 0, 0, [])), (23, (0, 24, 0, 0, 0, 0, [])), (24, (19, 0, 0, 0, 0, 0, []))]
def zu_X6_place : List (Nat × List Nat) := [(0, [0])]
def zc_X6_value : List (Nat × zO) := [(0, (2, 1, 0, 0, 0, 0, [])), (1, (14, 4, 6, 4, 46, 0, [])), (4, (2, 5, 0, 0, 0, 0, [])), (5, (14, 8, 6, 3, 45, 0, [])), (8, (36, 23, 11, 0, 0, 0, [])), (11, (2, 12, 0, 0, 0, 0, [])), (12, (14, 15, 6, 2, 49, 0, [])), (15, (2, 16, 0, 0, 0, 0, [])), (16, (14, 19, 6, 4, 46, 0, [])), (19, (16, 20, 0, 0, 0, 0, [])), (20, (12, 0, 24, 0, 0, 0, [])), (23, (0, 24, 0, 0, 0, 0, [])), (24, (19, 0, 0, 0, 0, 0, []))]
def zu_X6_value : List (Nat × List Nat) := [(0, [0])]
def zc_X6_skip : List (Nat × zO) := [(0, (2, 1, 0, 0, 0, 0, [])), (1, (14, 4, 6, 4, 46, 0, [])), (4, (2, 5, 0, 0, 0, 0, [])), (5, (14, 8, 6, 3, 45, 0, [])), (8, (0, 9, 0, 0, 0, 1, [])), (9, (7, 10, 0, 1, 0, 0, [])), (10, (36, 23, 13, 0, 0, 0, [])), (13, (2, 14, 0, 0, 0, 0, [])), (14, (21, 15, 0, 0, 0, 0, [])), (15, (14, 18, 6, 4, 46, 0, [])), (18, (0, 19, 0, 0, 0, 1, [])), (19, (7, 20, 0, 0, 0, 0, [])), (20, (15, 23, 6, 4, 46, 0, [])), (23, (20, 0, 0, 0, 0, 0, []))]
def zu_X6_skip : List (Nat × List Nat) := [(0, [0])]
def zc_X6_take : List (Nat × zO) := [(0, (2, 1, 0, 0, 0, 0, [])), (1, (18, 4, 80, 1, 80, 0, [(0, 6)])), (4, (1, 5, 1, 0, 0, 0, [])), (5, (35, 12, 8, 0, 0, 0, [])), (8, (0, 9, 0, 0, 0, 1, [])), (9, (12, 0, 13, 0, 0, 0, [])), (12, (0, 13, 0, 0, 0, 0, [])), (13, (4, 14, 2, 0, 0, 0, [])), (14, (1, 15, 2, 0, 0, 0, [])), (15, (32, 18, 22, 0, 0, 0, [])), (18, (2, 19, 0, 0, 0, 0, [])), (19, (30, 22, 83, 1, 81, 0, [(0, 6)])), (22, (1, 23, 2, 0, 0, 0, [])), (23, (19, 0, 0, 1, 0, 0, []))]
def zu_X6_take : List (Nat × List Nat) := [(0, [0, 1])]
def zc_X6_isWord : List (Nat × zO) := [(0, (2, 1, 0, 0, 0, 0, [])), (1, (18, 4, 80, 1, 80, 0, [(0, 6)])), (4, (0, 5, 0, 0, 0, 4, [])), (5, (35, 20, 8, 0, 0, 0, [])), (8, (2, 9, 0, 0, 0, 0, [])), (9, (18, 12, 82, 1, 82, 0, [(0, 6)])), (12, (1, 13, 1, 0, 0, 0, [])), (13, (35, 20, 16, 0, 0, 0, [])), (16, (0, 17, 0, 0, 0, 1, [])), (17, (12, 0, 21, 0, 0, 0, [])), (20, (0, 21, 0, 0, 0, 0, [])), (21, (19, 0, 0, 1, 0, 0, []))]
def zu_X6_isWord : List (Nat × List Nat) := [(0, [0, 1])]
def zc_X6_add : List (Nat × zO) := [(0, (2, 1, 0, 0, 0, 0, [])), (1, (14, 4, 6, 3, 45, 0, [])), (4, (2, 5, 0, 0, 0, 0, [])), (5, (14, 8, 6, 0, 47, 0, [])), (8, (24, 9, 0, 0, 0, 0, [])), (9, (36, 52, 12, 0, 0, 0, [])), (12, (2, 13, 0, 0, 0, 0, [])), (13, (14, 16, 6, 0, 47, 0, [])), (16, (2, 17, 0, 0, 0, 0, [])), (17, (14, 20, 6, 3, 45, 0, [])), (20, (1, 21, 1, 0, 0, 0, [])), (21, (17, 22, 0, 0, 0, 0, [])), (22, (2, 23, 0, 0, 0, 0, [])), (23, (14, 26, 6, 1, 48, 0, [])), (26, (2, 27, 0, 0, 0, 0, [])), (27, (14, 30, 6, 3, 45, 0, [])), (30, (1, 31, 2, 0, 0, 0, [])), (31, (17, 32, 0, 0, 0, 0, [])), (32, (2, 33, 0, 0, 0, 0, [])), (33, (14, 36, 6, 2, 49, 0, [])), (36, (2, 37, 0, 0, 0, 0, [])), (37, (14, 40, 6, 3, 45, 0, [])), (40, (1, 41, 3, 0, 0, 0, [])), (41, (17, 42, 0, 0, 0, 0, [])), (42, (2, 43, 0, 0, 0, 0, [])), (43, (21, 44, 0, 0, 0, 0, [])), (44, (14, 47, 6, 3, 45, 0, [])), (47, (0, 48, 0, 0, 0, 1, [])), (48, (7, 49, 0, 0, 0, 0, [])), (49, (15, 52, 6, 3, 45, 0, [])), (52, (20, 0, 0, 0, 0, 0, []))]
def zu_X6_add : List (Nat × List Nat) := [(0, [0, 1, 2, 3])]
def zc_X6_addFrom : List (Nat × zO) := [(0, (2, 1, 1, 0, 0, 0, [])), (1, (1, 2, 2, 0, 0, 0, [])), (2, (18, 5, 77, 2, 83, 0, [(0, 5)])), (5, (4, 6, 3, 0, 0, 0, [])), (6, (1, 7, 3, 0, 0, 0, [])), (7, (18, 10, 91, 1, 84, 0, [])), (10, (32, 13, 22, 0, 0, 0, [])), (13, (2, 14, 0, 0, 0, 0, [])), (14, (2, 15, 1, 0, 0, 0, [])), (15, (1, 16, 2, 0, 0, 0, [])), (16, (30, 19, 88, 3, 85, 0, [(0, 6)])), (19, (12, 0, 59, 0, 0, 0, [])), (22, (1, 23, 3, 0, 0, 0, [])), (23, (18, 26, 92, 1, 86, 0, [])), (26, (32, 29, 38, 0, 0, 0, [])), (29, (2, 30, 0, 0, 0, 0, [])), (30, (2, 31, 1, 0, 0, 0, [])), (31, (1, 32, 2, 0, 0, 0, [])), (32, (30, 35, 89, 3, 87, 0, [(0, 6)])), (35, (12, 0, 59, 0, 0, 0, [])), (38, (2, 39, 0, 0, 0, 0, [])), (39, (27, 41, 72, 9, 0, 0, [])), (41, (1, 42, 3, 0, 0, 0, [])), (42, (8, 43, 0, 1, 0, 0, [])), (43, (28, 46, 2, 74, 0, 0, [])), (46, (33, 49, 53, 0, 0, 0, [])), (49, (1, 50, 3, 0, 0, 0, [])), (50, (12, 0, 54, 0, 0, 0, [])), (53, (0, 54, 0, 0, 0, 1, [])), (54, (1, 55, 2, 0, 0, 0, [])), (55, (0, 56, 0, 0, 0, 0, [])), (56, (30, 59, 86, 4, 79, 0, [(0, 6)])), (59, (20, 0, 0, 0, 0, 0, []))]
def zu_X6_addFrom : List (Nat × List Nat) := [(0, [0, 1, 2])]
def zc_X6_addName : List (Nat × zO) := [(0, (1, 1, 2, 0, 0, 0, [])), (1, (4, 10002, 3, 0, 0, 0, [])), (2, (1, 3, 3, 0, 0, 0, [])), (3, (2, 4, 1, 0, 0, 0, [])), (4, (18, 7, 76, 1, 76, 0, [(0, 5)])), (7, (36, 27, 10, 0, 0, 0, [])), (10, (2, 11, 1, 0, 0, 0, [])), (11, (1, 12, 3, 0, 0, 0, [])), (12, (18, 15, 77, 2, 83, 0, [(0, 5)])), (15, (18, 18, 91, 1, 84, 0, [])), (18, (32, 21, 27, 0, 0, 0, [])), (21, (6, 24, 3, 0, 0, 1, [])), (24, (12, 0, 10002, 0, 0, 0, [])), (27, (2, 28, 1, 0, 0, 0, [])), (28, (1, 29, 2, 0, 0, 0, [])), (29, (18, 32, 77, 2, 83, 0, [(0, 5)])), (32, (0, 34, 0, 0, 0, 97, [])), (34, (7, 35, 0, 1, 0, 0, [])), (35, (4, 37, 4, 0, 0, 0, [])), (37, (1, 38, 3, 0, 0, 0, [])), (38, (1, 39, 2, 0, 0, 0, [])), (39, (7, 40, 0, 1, 0, 0, [])), (40, (0, 41, 0, 0, 0, 1, [])), (41, (35, 60, 44, 0, 0, 0, [])), (44, (1, 46, 4, 0, 0, 0, [])), (46, (0, 48, 0, 0, 0, 8, [])), (48, (36, 60, 51, 0, 0, 0, [])), (51, (2, 52, 0, 0, 0, 0, [])), (52, (0, 53, 0, 0, 0, 2, [])), (53, (1, 54, 2, 0, 0, 0, [])), (54, (1, 56, 4, 0, 0, 0, [])), (56, (30, 59, 86, 4, 79, 0, [(0, 6)])), (59, (20, 0, 0, 0, 0, 0, [])), (60, (2, 61, 1, 0, 0, 0, [])), (61, (1, 62, 2, 0, 0, 0, [])), (62, (1, 63, 3, 0, 0, 0, [])), (63, (18, 66, 93, 3, 88, 0, [])), (66, (4, 68, 5, 0, 0, 0, [])), (68, (2, 69, 0, 0, 0, 0, [])), (69, (1, 71, 5, 0, 0, 0, [])), (71, (0, 72, 0, 0, 0, (-1), [])), (72, (35, 79, 75, 0, 0, 0, [])), (75, (0, 76, 0, 0, 0, 1, [])), (76, (12, 0, 80, 0, 0, 0, [])), (79, (0, 80, 0, 0, 0, 4, [])), (80, (1, 81, 2, 0, 0, 0, [])), (81, (1, 83, 5, 0, 0, 0, [])), (83, (30, 86, 86, 4, 79, 0, [(0, 6)])), (86, (20, 0, 0, 0, 0, 0, []))]
def zu_X6_addName : List (Nat × List Nat) := [(0, [0, 1, 2]), (2, [0, 1, 2, 3])]
def zc_X6_addNumber : List (Nat × zO) := [(0, (1, 1, 2, 0, 0, 0, [])), (1, (4, 2, 3, 0, 0, 0, [])), (2, (0, 3, 0, 0, 0, 0, [])), (3, (4, 10005, 4, 0, 0, 0, [])), (5, (1, 6, 3, 0, 0, 0, [])), (6, (2, 7, 1, 0, 0, 0, [])), (7, (18, 10, 76, 1, 76, 0, [(0, 5)])), (10, (36, 10046, 13, 0, 0, 0, [])), (13, (2, 14, 1, 0, 0, 0, [])), (14, (1, 15, 3, 0, 0, 0, [])), (15, (18, 18, 77, 2, 83, 0, [(0, 5)])), (18, (18, 21, 92, 1, 86, 0, [])), (21, (32, 24, 10046, 0, 0, 0, [])), (24, (1, 26, 4, 0, 0, 0, [])), (26, (0, 28, 0, 0, 0, 10, [])), (28, (7, 29, 0, 2, 0, 0, [])), (29, (2, 30, 1, 0, 0, 0, [])), (30, (1, 31, 3, 0, 0, 0, [])), (31, (18, 34, 77, 2, 83, 0, [(0, 5)])), (34, (0, 36, 0, 0, 0, 48, [])), (36, (7, 37, 0, 1, 0, 0, [])), (37, (7, 38, 0, 0, 0, 0, [])), (38, (4, 40, 4, 0, 0, 0, [])), (40, (6, 43, 3, 0, 0, 1, [])), (43, (12, 0, 10005, 0, 0, 0, [])), (46, (2, 47, 0, 0, 0, 0, [])), (47, (1, 48, 3, 0, 0, 0, [])), (48, (1, 49, 2, 0, 0, 0, [])), (49, (7, 50, 0, 1, 0, 0, [])), (50, (0, 52, 0, 0, 0, 6, [])), (52, (37, 55, 59, 0, 0, 0, [])), (55, (0, 56, 0, 0, 0, 3, [])), (56, (12, 0, 60, 0, 0, 0, [])), (59, (0, 60, 0, 0, 0, 1, [])), (60, (1, 61, 2, 0, 0, 0, [])), (61, (1, 63, 4, 0, 0, 0, [])), (63, (30, 66, 86, 4, 79, 0, [(0, 6)])), (66, (20, 0, 0, 0, 0, 0, []))]
def zu_X6_addNumber : List (Nat × List Nat) := [(0, [0, 1, 2]), (5, [0, 1, 2, 3, 4]), (46, [0, 2, 3, 4])]
def zc_X6_isStart : List (Nat × zO) := [(0, (2, 1, 0, 0, 0, 0, [])), (1, (1, 2, 1, 0, 0, 0, [])), (2, (18, 5, 77, 2, 83, 0, [(0, 5)])), (5, (4, 6, 2, 0, 0, 0, [])), (6, (2, 7, 0, 0, 0, 0, [])), (7, (1, 8, 1, 0, 0, 0, [])), (8, (0, 9, 0, 0, 0, 1, [])), (9, (7, 10, 0, 1, 0, 0, [])), (10, (18, 13, 77, 2, 83, 0, [(0, 5)])), (13, (4, 14, 3, 0, 0, 0, [])), (14, (1, 15, 2, 0, 0, 0, [])), (15, (0, 17, 0, 0, 0, 32, [])), (17, (35, 20, 52, 0, 0, 0, [])), (20, (1, 21, 2, 0, 0, 0, [])), (21, (18, 24, 91, 1, 84, 0, [])), (24, (32, 27, 34, 0, 0, 0, [])), (27, (1, 28, 3, 0, 0, 0, [])), (28, (18, 31, 91, 1, 84, 0, [])), (31, (32, 52, 34, 0, 0, 0, [])), (34, (1, 35, 2, 0, 0, 0, [])), (35, (18, 38, 92, 1, 86, 0, [])), (38, (32, 41, 48, 0, 0, 0, [])), (41, (1, 42, 3, 0, 0, 0, [])), (42, (18, 45, 92, 1, 86, 0, [])), (45, (32, 52, 48, 0, 0, 0, [])), (48, (0, 49, 0, 0, 0, 1, [])), (49, (12, 0, 53, 0, 0, 0, [])), (52, (0, 53, 0, 0, 0, 0, [])), (53, (19, 0, 0, 1, 0, 0, []))]
def zu_X6_isStart : List (Nat × List Nat) := [(0, [0, 1])]
def zc_X6_isLetter : List (Nat × zO) := [(0, (1, 1, 0, 0, 0, 0, [])), (1, (0, 3, 0, 0, 0, 97, [])), (3, (36, 6, 16, 0, 0, 0, [])), (6, (1, 7, 0, 0, 0, 0, [])), (7, (0, 9, 0, 0, 0, 122, [])), (9, (37, 12, 16, 0, 0, 0, [])), (12, (0, 13, 0, 0, 0, 1, [])), (13, (12, 0, 17, 0, 0, 0, [])), (16, (0, 17, 0, 0, 0, 0, [])), (17, (19, 0, 0, 1, 0, 0, []))]
def zu_X6_isLetter : List (Nat × List Nat) := [(0, [0])]
def zc_X6_isDigit : List (Nat × zO) := [(0, (1, 1, 0, 0, 0, 0, [])), (1, (0, 3, 0, 0, 0, 48, [])), (3, (36, 6, 16, 0, 0, 0, [])), (6, (1, 7, 0, 0, 0, 0, [])), (7, (0, 9, 0, 0, 0, 57, [])), (9, (37, 12, 16, 0, 0, 0, [])), (12, (0, 13, 0, 0, 0, 1, [])), (13, (12, 0, 17, 0, 0, 0, [])), (16, (0, 17, 0, 0, 0, 0, [])), (17, (19, 0, 0, 1, 0, 0, []))]
def zu_X6_isDigit : List (Nat × List Nat) := [(0, [0])]
def zc_X6_sortOfWord : List (Nat × zO) := [(0, (2, 1, 0, 0, 0, 0, [])), (1, (1, 2, 1, 0, 0, 0, [])), (2, (1, 3, 2, 0, 0, 0, [])), (3, (27, 5, 83, 0, 0, 0, [])), (5, (18, 8, 94, 4, 89, 0, [])), (8, (32, 11, 13, 0, 0, 0, [])), (11, (0, 12, 0, 0, 0, 1, [])), (12, (19, 0, 0, 0, 0, 0, [])), (13, (2, 14, 0, 0, 0, 0, [])), (14, (1, 15, 1, 0, 0, 0, [])), (15, (1, 16, 2, 0, 0, 0, [])), (16, (27, 18, 89, 1, 0, 0, [])), (18, (18, 21, 94, 4, 89, 0, [])), (21, (32, 24, 26, 0, 0, 0, [])), (24, (0, 25, 0, 0, 0, 2, [])), (25, (19, 0, 0, 0, 0, 0, [])), (26, (2, 27, 0, 0, 0, 0, [])), (27, (1, 28, 1, 0, 0, 0, [])), (28, (1, 29, 2, 0, 0, 0, [])), (29, (27, 31, 91, 2, 0, 0, [])), (31, (18, 34, 94, 4, 89, 0, [])), (34, (32, 37, 39, 0, 0, 0, [])), (37, (0, 38, 0, 0, 0, 4, [])), (38, (19, 0, 0, 0, 0, 0, [])), (39, (2, 40, 0, 0, 0, 0, [])), (40, (1, 41, 1, 0, 0, 0, [])), (41, (1, 42, 2, 0, 0, 0, [])), (42, (27, 44, 93, 3, 0, 0, [])), (44, (18, 47, 94, 4, 89, 0, [])), (47, (32, 50, 52, 0, 0, 0, [])), (50, (0, 51, 0, 0, 0, 5, [])), (51, (19, 0, 0, 0, 0, 0, [])), (52, (2, 53, 0, 0, 0, 0, [])), (53, (1, 54, 1, 0, 0, 0, [])), (54, (1, 55, 2, 0, 0, 0, [])), (55, (27, 57, 95, 4, 0, 0, [])), (57, (18, 60, 94, 4, 89, 0, [])), (60, (32, 63, 66, 0, 0, 0, [])), (63, (0, 65, 0, 0, 0, 6, [])), (65, (19, 0, 0, 0, 0, 0, [])), (66, (2, 67, 0, 0, 0, 0, [])), (67, (1, 68, 1, 0, 0, 0, [])), (68, (1, 69, 2, 0, 0, 0, [])), (69, (27, 71, 97, 5, 0, 0, [])), (71, (18, 74, 94, 4, 89, 0, [])), (74, (32, 77, 80, 0, 0, 0, [])), (77, (0, 79, 0, 0, 0, 7, [])), (79, (19, 0, 0, 0, 0, 0, [])), (80, (2, 81, 0, 0, 0, 0, [])), (81, (1, 82, 1, 0, 0, 0, [])), (82, (1, 83, 2, 0, 0, 0, [])), (83, (27, 85, 99, 6, 0, 0, [])), (85, (18, 88, 94, 4, 89, 0, [])), (88, (32, 91, 94, 0, 0, 0, [])), (91, (0, 93, 0, 0, 0, 8, [])), (93, (19, 0, 0, 0, 0, 0, [])), (94, (2, 95, 0, 0, 0, 0, [])), (95, (1, 96, 1, 0, 0, 0, [])), (96, (1, 97, 2, 0, 0, 0, [])), (97, (27, 99, 101, 7, 0, 0, [])), (99, (18, 102, 94, 4, 89, 0, [])), (102, (32, 105, 108, 0, 0, 0, [])), (105, (0, 107, 0, 0, 0, 9, [])), (107, (19, 0, 0, 0, 0, 0, [])), (108, (2, 109, 0, 0, 0, 0, [])), (109, (1, 110, 1, 0, 0, 0, [])), (110, (1, 111, 2, 0, 0, 0, [])), (111, (27, 113, 103, 8, 0, 0, [])), (113, (18, 116, 94, 4, 89, 0, [])), (116, (32, 119, 123, 0, 0, 0, [])), (119, (0, 120, 0, 0, 0, 3, [])), (120, (12, 0, 124, 0, 0, 0, [])), (123, (0, 124, 0, 0, 0, (-1), [])), (124, (19, 0, 0, 0, 0, 0, []))]
def zu_X6_sortOfWord : List (Nat × List Nat) := [(0, [0, 1, 2])]
def zc_X6_spells : List (Nat × zO) := [(0, (1, 1, 2, 0, 0, 0, [])), (1, (1, 2, 1, 0, 0, 0, [])), (2, (7, 3, 0, 1, 0, 0, [])), (3, (2, 4, 3, 0, 0, 0, [])), (4, (28, 7, 0, 105, 0, 0, [])), (7, (35, 10, 12, 0, 0, 0, [])), (10, (0, 11, 0, 0, 0, 0, [])), (11, (19, 0, 0, 1, 0, 0, [])), (12, (0, 13, 0, 0, 0, 0, [])), (13, (4, 10015, 4, 0, 0, 0, [])), (15, (1, 17, 4, 0, 0, 0, [])), (17, (2, 18, 3, 0, 0, 0, [])), (18, (28, 21, 0, 105, 0, 0, [])), (21, (36, 49, 24, 0, 0, 0, [])), (24, (2, 25, 0, 0, 0, 0, [])), (25, (1, 26, 1, 0, 0, 0, [])), (26, (1, 28, 4, 0, 0, 0, [])), (28, (7, 29, 0, 0, 0, 0, [])), (29, (18, 32, 77, 2, 83, 0, [(0, 5)])), (32, (2, 33, 3, 0, 0, 0, [])), (33, (1, 35, 4, 0, 0, 0, [])), (35, (28, 38, 1, 106, 0, 0, [])), (38, (35, 41, 43, 0, 0, 0, [])), (41, (0, 42, 0, 0, 0, 0, [])), (42, (19, 0, 0, 1, 0, 0, [])), (43, (6, 46, 4, 0, 0, 1, [])), (46, (12, 0, 10015, 0, 0, 0, [])), (49, (0, 50, 0, 0, 0, 1, [])), (50, (19, 0, 0, 1, 0, 0, []))]
def zu_X6_spells : List (Nat × List Nat) := [(0, [0, 1, 2, 3]), (15, [0, 1, 3, 4])]
def zc_X7_type : List (Nat × zO) := [(0, (2, 1, 0, 0, 0, 0, [])), (1, (14, 4, 7, 0, 50, 0, [])), (4, (3, 5, 1, 0, 0, 0, [])), (5, (1, 6, 3, 0, 0, 0, [])), (6, (18, 9, 74, 3, 90, 0, [(0, 5)])), (9, (19, 0, 0, 1, 0, 0, []))]
def zu_X7_type : List (Nat × List Nat) := [(0, [0, 1, 3])]
def zc_X7_program : List (Nat × zO) := [(0, (2, 1, 0, 0, 0, 0, [])), (1, (14, 4, 7, 1, 51, 0, [])), (4, (2, 5, 0, 0, 0, 0, [])), (5, (14, 8, 7, 0, 50, 0, [])), (8, (30, 11, 79, 2, 91, 0, [(0, 6)])), (11, (2, 12, 0, 0, 0, 0, [])), (12, (14, 15, 7, 0, 50, 0, [])), (15, (30, 18, 75, 1, 92, 0, [(0, 5)])), (18, (2, 19, 0, 0, 0, 0, [])), (19, (2, 20, 0, 0, 0, 0, [])), (20, (14, 23, 7, 4, 52, 0, [])), (23, (18, 26, 36, 1, 93, 0, [(0, 2)])), (26, (15, 29, 7, 10, 53, 0, [])), (29, (2, 30, 0, 0, 0, 0, [])), (30, (14, 33, 7, 10, 53, 0, [])), (33, (0, 34, 0, 0, 0, (-1), [])), (34, (35, 37, 47, 0, 0, 0, [])), (37, (29, 0, 0, 0, 0, 0, [])), (40, (21, 41, 0, 0, 0, 0, [])), (41, (27, 43, 99, 99, 0, 0, [])), (47, (2, 48, 0, 0, 0, 0, [])), (48, (14, 51, 7, 3, 54, 0, [])), (51, (2, 52, 0, 0, 0, 0, [])), (52, (14, 55, 7, 2, 55, 0, [])), (55, (30, 58, 18, 2, 94, 0, [(0, 1)])), (58, (2, 59, 0, 0, 0, 0, [])), (59, (0, 60, 0, 0, 0, 1, [])), (60, (31, 63, 7, 9, 56, 0, [])), (63, (2, 64, 0, 0, 0, 0, [])), (64, (14, 67, 7, 6, 57, 0, [])), (67, (30, 70, 51, 1, 95, 0, [(0, 3)])), (70, (2, 71, 0, 0, 0, 0, [])), (71, (14, 74, 7, 3, 54, 0, [])), (74, (18, 77, 20, 1, 96, 0, [(0, 1)])), (77, (19, 0, 0, 0, 0, 0, []))]
def zu_X7_program : List (Nat × List Nat) := [(0, [0])]
def zc_X7_fault : List (Nat × zO) := [(0, (2, 1, 0, 0, 0, 0, [])), (1, (14, 4, 7, 10, 53, 0, [])), (4, (19, 0, 0, 0, 0, 0, []))]
def zu_X7_fault : List (Nat × List Nat) := [(0, [0])]
def zc_X7_decide : List (Nat × zO) := [(0, (2, 1, 0, 0, 0, 0, [])), (1, (14, 4, 7, 5, 58, 0, [])), (4, (18, 7, 1, 1, 97, 0, [(0, 0)])), (7, (4, 8, 2, 0, 0, 0, [])), (8, (2, 9, 0, 0, 0, 0, [])), (9, (2, 10, 0, 0, 0, 0, [])), (10, (14, 13, 7, 9, 56, 0, [])), (13, (32, 16, 26, 0, 0, 0, [])), (16, (2, 17, 0, 0, 0, 0, [])), (17, (14, 20, 7, 8, 59, 0, [])), (20, (18, 23, 55, 1, 98, 0, [(0, 4)])), (23, (12, 0, 27, 0, 0, 0, [])), (26, (0, 27, 0, 0, 0, 1, [])), (27, (15, 30, 7, 11, 60, 0, [])), (30, (2, 31, 0, 0, 0, 0, [])), (31, (2, 32, 0, 0, 0, 0, [])), (32, (14, 35, 7, 11, 60, 0, [])), (35, (0, 36, 0, 0, 0, 2, [])), (36, (35, 49, 39, 0, 0, 0, [])), (39, (2, 40, 0, 0, 0, 0, [])), (40, (14, 43, 7, 8, 59, 0, [])), (43, (14, 46, 4, 12, 61, 0, [])), (46, (12, 0, 50, 0, 0, 0, [])), (49, (0, 50, 0, 0, 0, (-1), [])), (50, (15, 53, 7, 12, 62, 0, [])), (53, (2, 54, 0, 0, 0, 0, [])), (54, (14, 57, 7, 11, 60, 0, [])), (57, (32, 72, 60, 0, 0, 0, [])), (60, (2, 61, 0, 0, 0, 0, [])), (61, (2, 62, 0, 0, 0, 0, [])), (62, (14, 65, 7, 8, 59, 0, [])), (65, (1, 66, 1, 0, 0, 0, [])), (66, (18, 69, 56, 2, 99, 0, [(0, 4)])), (69, (15, 72, 7, 11, 60, 0, [])), (72, (2, 73, 0, 0, 0, 0, [])), (73, (14, 76, 7, 11, 60, 0, [])), (76, (32, 79, 89, 0, 0, 0, [])), (79, (29, 0, 0, 0, 0, 0, [])), (82, (21, 83, 0, 0, 0, 0, [])), (83, (27, 85, 129, 99, 0, 0, [])), (89, (2, 90, 0, 0, 0, 0, [])), (90, (14, 93, 7, 7, 63, 0, [])), (93, (2, 94, 0, 0, 0, 0, [])), (94, (14, 97, 7, 6, 57, 0, [])), (97, (30, 100, 52, 2, 100, 0, [(0, 3)])), (100, (2, 101, 0, 0, 0, 0, [])), (101, (14, 104, 7, 5, 58, 0, [])), (104, (18, 107, 1, 1, 97, 0, [(0, 0)])), (107, (1, 108, 2, 0, 0, 0, [])), (108, (7, 109, 0, 1, 0, 0, [])), (109, (0, 110, 0, 0, 0, 1, [])), (110, (7, 111, 0, 1, 0, 0, [])), (111, (19, 0, 0, 0, 0, 0, []))]
def zu_X7_decide : List (Nat × List Nat) := [(0, [0, 1])]
def zc_X7_refused : List (Nat × zO) := [(0, (2, 1, 0, 0, 0, 0, [])), (1, (14, 4, 7, 11, 60, 0, [])), (4, (19, 0, 0, 0, 0, 0, []))]
def zu_X7_refused : List (Nat × List Nat) := [(0, [0])]
def zc_X7_differs : List (Nat × zO) := [(0, (2, 1, 0, 0, 0, 0, [])), (1, (14, 4, 7, 12, 62, 0, [])), (4, (19, 0, 0, 0, 0, 0, []))]
def zu_X7_differs : List (Nat × List Nat) := [(0, [0])]
def zc_X7_happen : List (Nat × zO) := [(0, (2, 1, 0, 0, 0, 0, [])), (1, (14, 4, 7, 5, 58, 0, [])), (4, (1, 5, 1, 0, 0, 0, [])), (5, (1, 6, 2, 0, 0, 0, [])), (6, (1, 7, 3, 0, 0, 0, [])), (7, (18, 10, 8, 4, 101, 0, [(0, 0)])), (10, (19, 0, 0, 1, 0, 0, []))]
def zu_X7_happen : List (Nat × List Nat) := [(0, [0, 1, 2, 3])]
def zc_X7_crash : List (Nat × zO) := [(0, (2, 1, 0, 0, 0, 0, [])), (1, (14, 4, 7, 6, 57, 0, [])), (4, (30, 7, 51, 1, 95, 0, [(0, 3)])), (7, (20, 0, 0, 0, 0, 0, []))]
def zu_X7_crash : List (Nat × List Nat) := [(0, [0])]
def zc_X7_clear : List (Nat × zO) := [(0, (2, 1, 0, 0, 0, 0, [])), (1, (14, 4, 7, 5, 58, 0, [])), (4, (30, 7, 0, 1, 102, 0, [(0, 0)])), (7, (2, 8, 0, 0, 0, 0, [])), (8, (14, 11, 7, 6, 57, 0, [])), (11, (30, 14, 51, 1, 95, 0, [(0, 3)])), (14, (2, 15, 0, 0, 0, 0, [])), (15, (14, 18, 7, 7, 63, 0, [])), (18, (30, 21, 51, 1, 95, 0, [(0, 3)])), (21, (20, 0, 0, 0, 0, 0, []))]
def zu_X7_clear : List (Nat × List Nat) := [(0, [0])]
def zc_X7_event : List (Nat × zO) := [(0, (2, 1, 0, 0, 0, 0, [])), (1, (14, 4, 7, 5, 58, 0, [])), (4, (1, 5, 1, 0, 0, 0, [])), (5, (18, 8, 2, 2, 103, 0, [(0, 0)])), (8, (32, 11, 20, 0, 0, 0, [])), (11, (1, 12, 2, 0, 0, 0, [])), (12, (33, 15, 20, 0, 0, 0, [])), (15, (1, 16, 2, 0, 0, 0, [])), (16, (0, 17, 0, 0, 0, 2, [])), (17, (37, 30, 20, 0, 0, 0, [])), (20, (29, 0, 0, 0, 0, 0, [])), (23, (21, 24, 0, 0, 0, 0, [])), (24, (27, 26, 146, 99, 0, 0, [])), (30, (1, 31, 2, 0, 0, 0, [])), (31, (32, 43, 34, 0, 0, 0, [])), (34, (2, 35, 0, 0, 0, 0, [])), (35, (14, 38, 7, 5, 58, 0, [])), (38, (1, 39, 1, 0, 0, 0, [])), (39, (18, 42, 3, 2, 104, 0, [(0, 0)])), (42, (19, 0, 0, 0, 0, 0, [])), (43, (1, 44, 2, 0, 0, 0, [])), (44, (0, 45, 0, 0, 0, 1, [])), (45, (35, 59, 48, 0, 0, 0, [])), (48, (2, 49, 0, 0, 0, 0, [])), (49, (14, 52, 7, 5, 58, 0, [])), (52, (1, 53, 1, 0, 0, 0, [])), (53, (18, 56, 4, 2, 105, 0, [(0, 0)])), (56, (12, 0, 67, 0, 0, 0, [])), (59, (2, 60, 0, 0, 0, 0, [])), (60, (14, 63, 7, 5, 58, 0, [])), (63, (1, 64, 1, 0, 0, 0, [])), (64, (18, 67, 5, 2, 106, 0, [(0, 0)])), (67, (19, 0, 0, 0, 0, 0, []))]
def zu_X7_event : List (Nat × List Nat) := [(0, [0, 1, 2])]
def zc_X7_register : List (Nat × zO) := [(0, (1, 1, 1, 0, 0, 0, [])), (1, (33, 4, 10, 0, 0, 0, [])), (4, (1, 5, 1, 0, 0, 0, [])), (5, (0, 7, 0, 0, 0, 8, [])), (7, (36, 10, 20, 0, 0, 0, [])), (10, (29, 0, 0, 0, 0, 0, [])), (13, (21, 14, 0, 0, 0, 0, [])), (14, (27, 16, 158, 99, 0, 0, [])), (20, (2, 21, 0, 0, 0, 0, [])), (21, (14, 24, 7, 7, 63, 0, [])), (24, (1, 25, 1, 0, 0, 0, [])), (25, (18, 28, 53, 2, 107, 0, [(0, 3)])), (28, (19, 0, 0, 0, 0, 0, []))]
def zu_X7_register : List (Nat × List Nat) := [(0, [0, 1])]
def zc_X7_total : List (Nat × zO) := [(0, (1, 1, 1, 0, 0, 0, [])), (1, (13, 0, 100, 0, 0, 0, [(0, 40), (1, 48), (2, 58), (3, 68), (4, 84), (5, 92)])), (40, (2, 41, 0, 0, 0, 0, [])), (41, (14, 44, 7, 5, 58, 0, [])), (44, (18, 47, 1, 1, 97, 0, [(0, 0)])), (47, (19, 0, 0, 0, 0, 0, [])), (48, (2, 49, 0, 0, 0, 0, [])), (49, (14, 52, 7, 5, 58, 0, [])), (52, (0, 53, 0, 0, 0, 1, [])), (53, (0, 54, 0, 0, 0, 4, [])), (54, (18, 57, 6, 3, 108, 0, [(0, 0)])), (57, (19, 0, 0, 0, 0, 0, [])), (58, (2, 59, 0, 0, 0, 0, [])), (59, (14, 62, 7, 5, 58, 0, [])), (62, (0, 63, 0, 0, 0, 0, [])), (63, (0, 64, 0, 0, 0, 0, [])), (64, (18, 67, 6, 3, 108, 0, [(0, 0)])), (67, (19, 0, 0, 0, 0, 0, [])), (68, (2, 69, 0, 0, 0, 0, [])), (69, (14, 72, 7, 7, 63, 0, [])), (72, (14, 75, 3, 5, 64, 0, [])), (75, (32, 78, 82, 0, 0, 0, [])), (78, (0, 79, 0, 0, 0, 1, [])), (79, (12, 0, 83, 0, 0, 0, [])), (82, (0, 83, 0, 0, 0, 0, [])), (83, (19, 0, 0, 0, 0, 0, [])), (84, (2, 85, 0, 0, 0, 0, [])), (85, (14, 88, 7, 7, 63, 0, [])), (88, (14, 91, 3, 3, 65, 0, [])), (91, (19, 0, 0, 0, 0, 0, [])), (92, (2, 93, 0, 0, 0, 0, [])), (93, (14, 96, 7, 7, 63, 0, [])), (96, (14, 99, 3, 2, 66, 0, [])), (99, (19, 0, 0, 0, 0, 0, [])), (100, (0, 101, 0, 0, 0, (-1), [])), (101, (19, 0, 0, 0, 0, 0, []))]
def zu_X7_total : List (Nat × List Nat) := [(0, [0, 1])]
def zc_X8_thrown : List (Nat × zO) := [(0, (2, 1, 0, 0, 0, 0, [])), (1, (14, 4, 8, 0, 67, 0, [])), (4, (19, 0, 0, 0, 0, 0, []))]
def zu_X8_thrown : List (Nat × List Nat) := [(0, [0])]
def zc_X8_raise : List (Nat × zO) := [(0, (2, 1, 0, 0, 0, 0, [])), (1, (1, 2, 1, 0, 0, 0, [])), (2, (15, 5, 8, 0, 67, 0, [])), (5, (0, 6, 0, 0, 0, 0, [])), (6, (19, 0, 0, 0, 0, 0, []))]
def zu_X8_raise : List (Nat × List Nat) := [(0, [0, 1])]
def zc_X8_type : List (Nat × zO) := [(0, (2, 1, 0, 0, 0, 0, [])), (1, (0, 2, 0, 0, 0, 0, [])), (2, (15, 5, 8, 0, 67, 0, [])), (5, (1, 6, 3, 0, 0, 0, [])), (6, (0, 7, 0, 0, 0, 1, [])), (7, (36, 10, 28, 0, 0, 0, [])), (10, (1, 11, 3, 0, 0, 0, [])), (11, (0, 13, 0, 0, 0, 8, [])), (13, (37, 10016, 28, 0, 0, 0, [])), (16, (2, 17, 0, 0, 0, 0, [])), (17, (14, 20, 8, 2, 68, 0, [])), (20, (1, 21, 3, 0, 0, 0, [])), (21, (7, 22, 0, 0, 0, 0, [])), (22, (0, 25, 0, 0, 0, 400, [])), (25, (37, 30, 28, 0, 0, 0, [])), (28, (0, 29, 0, 0, 0, 0, [])), (29, (19, 0, 0, 1, 0, 0, [])), (30, (0, 31, 0, 0, 0, 0, [])), (31, (4, 10033, 4, 0, 0, 0, [])), (33, (1, 35, 4, 0, 0, 0, [])), (35, (1, 36, 3, 0, 0, 0, [])), (36, (36, 75, 39, 0, 0, 0, [])), (39, (3, 40, 1, 0, 0, 0, [])), (40, (0, 42, 0, 0, 0, 8, [])), (42, (1, 44, 4, 0, 0, 0, [])), (44, (7, 45, 0, 2, 0, 0, [])), (45, (9, 46, 0, 0, 0, 0, [])), (46, (26, 49, 71, 0, 0, 255, [])), (49, (9, 50, 0, 2, 0, 0, [])), (50, (9, 51, 0, 3, 0, 0, [])), (51, (4, 53, 5, 0, 0, 0, [])), (53, (1, 55, 5, 0, 0, 0, [])), (55, (0, 57, 0, 0, 0, 32, [])), (57, (36, 60, 67, 0, 0, 0, [])), (60, (1, 62, 5, 0, 0, 0, [])), (62, (0, 64, 0, 0, 0, 126, [])), (64, (37, 69, 67, 0, 0, 0, [])), (67, (0, 68, 0, 0, 0, 0, [])), (68, (19, 0, 0, 1, 0, 0, [])), (69, (6, 72, 4, 0, 0, 1, [])), (72, (12, 0, 10033, 0, 0, 0, [])), (75, (1, 76, 3, 0, 0, 0, [])), (76, (0, 77, 0, 0, 0, 1, [])), (77, (7, 78, 0, 1, 0, 0, [])), (78, (4, 10080, 4, 0, 0, 0, [])), (80, (1, 82, 4, 0, 0, 0, [])), (82, (33, 85, 122, 0, 0, 0, [])), (85, (2, 86, 0, 0, 0, 0, [])), (86, (14, 89, 8, 1, 69, 0, [])), (89, (2, 90, 0, 0, 0, 0, [])), (90, (14, 93, 8, 2, 68, 0, [])), (93, (3, 94, 1, 0, 0, 0, [])), (94, (0, 96, 0, 0, 0, 8, [])), (96, (1, 98, 4, 0, 0, 0, [])), (98, (7, 99, 0, 2, 0, 0, [])), (99, (9, 100, 0, 0, 0, 0, [])), (100, (26, 103, 71, 0, 0, 255, [])), (103, (9, 104, 0, 2, 0, 0, [])), (104, (9, 105, 0, 3, 0, 0, [])), (105, (17, 106, 0, 0, 0, 0, [])), (106, (2, 107, 0, 0, 0, 0, [])), (107, (21, 108, 0, 0, 0, 0, [])), (108, (14, 111, 8, 2, 68, 0, [])), (111, (0, 112, 0, 0, 0, 1, [])), (112, (7, 113, 0, 0, 0, 0, [])), (113, (15, 116, 8, 2, 68, 0, [])), (116, (6, 119, 4, 0, 0, (-1), [])), (119, (12, 0, 10080, 0, 0, 0, [])), (122, (0, 123, 0, 0, 0, 1, [])), (123, (19, 0, 0, 1, 0, 0, []))]
def zu_X8_type : List (Nat × List Nat) := [(0, [0, 1, 3]), (16, [0, 1, 3]), (33, [0, 1, 3, 4]), (80, [0, 1, 4])]
def zc_X8_see : List (Nat × zO) := [(0, (1, 1, 1, 0, 0, 0, [])), (1, (2, 2, 0, 0, 0, 0, [])), (2, (14, 5, 8, 2, 68, 0, [])), (5, (36, 17, 8, 0, 0, 0, [])), (8, (2, 9, 0, 0, 0, 0, [])), (9, (14, 12, 8, 1, 69, 0, [])), (12, (1, 13, 1, 0, 0, 0, [])), (13, (16, 14, 0, 0, 0, 0, [])), (14, (12, 0, 18, 0, 0, 0, [])), (17, (0, 18, 0, 0, 0, 0, [])), (18, (19, 0, 0, 0, 0, 0, []))]
def zu_X8_see : List (Nat × List Nat) := [(0, [0, 1])]
def zc_X8_isDigit : List (Nat × zO) := [(0, (1, 1, 0, 0, 0, 0, [])), (1, (0, 3, 0, 0, 0, 48, [])), (3, (36, 6, 16, 0, 0, 0, [])), (6, (1, 7, 0, 0, 0, 0, [])), (7, (0, 9, 0, 0, 0, 57, [])), (9, (37, 12, 16, 0, 0, 0, [])), (12, (0, 13, 0, 0, 0, 1, [])), (13, (12, 0, 17, 0, 0, 0, [])), (16, (0, 17, 0, 0, 0, 0, [])), (17, (19, 0, 0, 1, 0, 0, []))]
def zu_X8_isDigit : List (Nat × List Nat) := [(0, [0])]
def zc_X8_isLetter : List (Nat × zO) := [(0, (1, 1, 0, 0, 0, 0, [])), (1, (0, 3, 0, 0, 0, 97, [])), (3, (36, 6, 16, 0, 0, 0, [])), (6, (1, 7, 0, 0, 0, 0, [])), (7, (0, 9, 0, 0, 0, 122, [])), (9, (37, 12, 16, 0, 0, 0, [])), (12, (0, 13, 0, 0, 0, 1, [])), (13, (12, 0, 17, 0, 0, 0, [])), (16, (0, 17, 0, 0, 0, 0, [])), (17, (19, 0, 0, 1, 0, 0, []))]
def zu_X8_isLetter : List (Nat × List Nat) := [(0, [0])]
def zc_X8_isSign : List (Nat × zO) := [(0, (1, 1, 0, 0, 0, 0, [])), (1, (0, 3, 0, 0, 0, 59, [])), (3, (35, 6, 84, 0, 0, 0, [])), (6, (1, 7, 0, 0, 0, 0, [])), (7, (0, 9, 0, 0, 0, 61, [])), (9, (35, 12, 84, 0, 0, 0, [])), (12, (1, 13, 0, 0, 0, 0, [])), (13, (0, 15, 0, 0, 0, 43, [])), (15, (35, 18, 84, 0, 0, 0, [])), (18, (1, 19, 0, 0, 0, 0, [])), (19, (0, 21, 0, 0, 0, 45, [])), (21, (35, 24, 84, 0, 0, 0, [])), (24, (1, 25, 0, 0, 0, 0, [])), (25, (0, 27, 0, 0, 0, 42, [])), (27, (35, 30, 84, 0, 0, 0, [])), (30, (1, 31, 0, 0, 0, 0, [])), (31, (0, 33, 0, 0, 0, 60, [])), (33, (35, 36, 84, 0, 0, 0, [])), (36, (1, 37, 0, 0, 0, 0, [])), (37, (0, 39, 0, 0, 0, 40, [])), (39, (35, 42, 84, 0, 0, 0, [])), (42, (1, 43, 0, 0, 0, 0, [])), (43, (0, 45, 0, 0, 0, 41, [])), (45, (35, 48, 84, 0, 0, 0, [])), (48, (1, 49, 0, 0, 0, 0, [])), (49, (0, 51, 0, 0, 0, 63, [])), (51, (35, 54, 84, 0, 0, 0, [])), (54, (1, 55, 0, 0, 0, 0, [])), (55, (0, 57, 0, 0, 0, 91, [])), (57, (35, 60, 84, 0, 0, 0, [])), (60, (1, 61, 0, 0, 0, 0, [])), (61, (0, 63, 0, 0, 0, 93, [])), (63, (35, 66, 84, 0, 0, 0, [])), (66, (1, 67, 0, 0, 0, 0, [])), (67, (0, 69, 0, 0, 0, 124, [])), (69, (35, 72, 84, 0, 0, 0, [])), (72, (1, 73, 0, 0, 0, 0, [])), (73, (0, 75, 0, 0, 0, 44, [])), (75, (35, 78, 84, 0, 0, 0, [])), (78, (1, 79, 0, 0, 0, 0, [])), (79, (0, 81, 0, 0, 0, 64, [])), (81, (35, 88, 84, 0, 0, 0, [])), (84, (0, 85, 0, 0, 0, 1, [])), (85, (12, 0, 89, 0, 0, 0, [])), (88, (0, 89, 0, 0, 0, 0, [])), (89, (19, 0, 0, 1, 0, 0, []))]
def zu_X8_isSign : List (Nat × List Nat) := [(0, [0])]
def zc_X8_token : List (Nat × zO) := [(0, (2, 1, 0, 0, 0, 0, [])), (1, (14, 4, 8, 5, 70, 0, [])), (4, (2, 5, 0, 0, 0, 0, [])), (5, (14, 8, 8, 4, 71, 0, [])), (8, (1, 9, 1, 0, 0, 0, [])), (9, (17, 10, 0, 0, 0, 0, [])), (10, (2, 11, 0, 0, 0, 0, [])), (11, (14, 14, 8, 6, 72, 0, [])), (14, (2, 15, 0, 0, 0, 0, [])), (15, (14, 18, 8, 4, 71, 0, [])), (18, (1, 19, 2, 0, 0, 0, [])), (19, (17, 20, 0, 0, 0, 0, [])), (20, (2, 21, 0, 0, 0, 0, [])), (21, (14, 24, 8, 7, 73, 0, [])), (24, (2, 25, 0, 0, 0, 0, [])), (25, (14, 28, 8, 4, 71, 0, [])), (28, (1, 29, 3, 0, 0, 0, [])), (29, (17, 30, 0, 0, 0, 0, [])), (30, (2, 31, 0, 0, 0, 0, [])), (31, (21, 32, 0, 0, 0, 0, [])), (32, (14, 35, 8, 4, 71, 0, [])), (35, (0, 36, 0, 0, 0, 1, [])), (36, (7, 37, 0, 0, 0, 0, [])), (37, (15, 40, 8, 4, 71, 0, [])), (40, (20, 0, 0, 0, 0, 0, []))]
def zu_X8_token : List (Nat × List Nat) := [(0, [0, 1, 2, 3])]
def zc_X8_spelt : List (Nat × zO) := [(0, (1, 1, 0, 0, 0, 0, [])), (1, (0, 3, 0, 0, 0, 8, [])), (3, (7, 4, 0, 5, 0, 0, [])), (4, (1, 5, 1, 0, 0, 0, [])), (5, (7, 6, 0, 4, 0, 0, [])), (6, (0, 8, 0, 0, 0, 8, [])), (8, (7, 9, 0, 5, 0, 0, [])), (9, (1, 10, 2, 0, 0, 0, [])), (10, (7, 11, 0, 4, 0, 0, [])), (11, (0, 13, 0, 0, 0, 8, [])), (13, (7, 14, 0, 5, 0, 0, [])), (14, (1, 15, 3, 0, 0, 0, [])), (15, (7, 16, 0, 4, 0, 0, [])), (16, (19, 0, 0, 0, 0, 0, []))]
def zu_X8_spelt : List (Nat × List Nat) := [(0, [0, 1, 2, 3])]
def zc_X8_nameOf : List (Nat × zO) := [(0, (1, 1, 2, 0, 0, 0, [])), (1, (0, 2, 0, 0, 0, 1, [])), (2, (35, 33, 5, 0, 0, 0, [])), (5, (2, 6, 0, 0, 0, 0, [])), (6, (14, 9, 8, 1, 69, 0, [])), (9, (1, 10, 1, 0, 0, 0, [])), (10, (16, 11, 0, 0, 0, 0, [])), (11, (0, 13, 0, 0, 0, 104, [])), (13, (37, 16, 31, 0, 0, 0, [])), (16, (0, 18, 0, 0, 0, 20, [])), (18, (2, 19, 0, 0, 0, 0, [])), (19, (14, 22, 8, 1, 69, 0, [])), (22, (1, 23, 1, 0, 0, 0, [])), (23, (16, 24, 0, 0, 0, 0, [])), (24, (7, 25, 0, 0, 0, 0, [])), (25, (0, 27, 0, 0, 0, 97, [])), (27, (7, 28, 0, 1, 0, 0, [])), (28, (12, 0, 32, 0, 0, 0, [])), (31, (0, 32, 0, 0, 0, 0, [])), (32, (19, 0, 0, 0, 0, 0, [])), (33, (0, 34, 0, 0, 0, 0, [])), (34, (4, 35, 3, 0, 0, 0, [])), (35, (0, 36, 0, 0, 0, 0, [])), (36, (4, 10038, 4, 0, 0, 0, [])), (38, (1, 40, 4, 0, 0, 0, [])), (40, (0, 41, 0, 0, 0, 4, [])), (41, (36, 10071, 44, 0, 0, 0, [])), (44, (1, 46, 4, 0, 0, 0, [])), (46, (1, 47, 2, 0, 0, 0, [])), (47, (36, 10071, 50, 0, 0, 0, [])), (50, (1, 51, 3, 0, 0, 0, [])), (51, (0, 53, 0, 0, 0, 8, [])), (53, (7, 54, 0, 5, 0, 0, [])), (54, (2, 55, 0, 0, 0, 0, [])), (55, (14, 58, 8, 1, 69, 0, [])), (58, (1, 59, 1, 0, 0, 0, [])), (59, (1, 61, 4, 0, 0, 0, [])), (61, (7, 62, 0, 0, 0, 0, [])), (62, (16, 63, 0, 0, 0, 0, [])), (63, (7, 64, 0, 4, 0, 0, [])), (64, (4, 65, 3, 0, 0, 0, [])), (65, (6, 68, 4, 0, 0, 1, [])), (68, (12, 0, 10038, 0, 0, 0, [])), (71, (1, 72, 2, 0, 0, 0, [])), (72, (0, 73, 0, 0, 0, 5, [])), (73, (35, 87, 76, 0, 0, 0, [])), (76, (2, 77, 0, 0, 0, 0, [])), (77, (14, 80, 8, 1, 69, 0, [])), (80, (1, 81, 1, 0, 0, 0, [])), (81, (0, 82, 0, 0, 0, 4, [])), (82, (7, 83, 0, 0, 0, 0, [])), (83, (16, 84, 0, 0, 0, 0, [])), (84, (12, 0, 88, 0, 0, 0, [])), (87, (0, 88, 0, 0, 0, 0, [])), (88, (4, 90, 4, 0, 0, 0, [])), (90, (1, 91, 2, 0, 0, 0, [])), (91, (0, 92, 0, 0, 0, 3, [])), (92, (35, 170, 95, 0, 0, 0, [])), (95, (1, 96, 3, 0, 0, 0, [])), (96, (0, 97, 0, 0, 0, 0, [])), (97, (0, 99, 0, 0, 0, 97, [])), (99, (0, 101, 0, 0, 0, 99, [])), (101, (0, 103, 0, 0, 0, 116, [])), (103, (18, 106, 115, 4, 109, 0, [])), (106, (35, 113, 109, 0, 0, 0, [])), (109, (0, 110, 0, 0, 0, 1, [])), (110, (12, 0, 169, 0, 0, 0, [])), (113, (1, 114, 3, 0, 0, 0, [])), (114, (0, 115, 0, 0, 0, 0, [])), (115, (0, 117, 0, 0, 0, 97, [])), (117, (0, 119, 0, 0, 0, 110, [])), (119, (0, 121, 0, 0, 0, 121, [])), (121, (18, 124, 115, 4, 109, 0, [])), (124, (35, 131, 127, 0, 0, 0, [])), (127, (0, 128, 0, 0, 0, 3, [])), (128, (12, 0, 169, 0, 0, 0, [])), (131, (1, 132, 3, 0, 0, 0, [])), (132, (0, 133, 0, 0, 0, 0, [])), (133, (0, 135, 0, 0, 0, 115, [])), (135, (0, 137, 0, 0, 0, 105, [])), (137, (0, 139, 0, 0, 0, 103, [])), (139, (18, 142, 115, 4, 109, 0, [])), (142, (35, 149, 145, 0, 0, 0, [])), (145, (0, 146, 0, 0, 0, 5, [])), (146, (12, 0, 169, 0, 0, 0, [])), (149, (1, 150, 3, 0, 0, 0, [])), (150, (0, 151, 0, 0, 0, 0, [])), (151, (0, 153, 0, 0, 0, 110, [])), (153, (0, 155, 0, 0, 0, 111, [])), (155, (0, 157, 0, 0, 0, 119, [])), (157, (18, 160, 115, 4, 109, 0, [])), (160, (35, 168, 163, 0, 0, 0, [])), (163, (0, 165, 0, 0, 0, 6, [])), (165, (12, 0, 169, 0, 0, 0, [])), (168, (0, 169, 0, 0, 0, 0, [])), (169, (19, 0, 0, 0, 0, 0, [])), (170, (1, 171, 2, 0, 0, 0, [])), (171, (0, 172, 0, 0, 0, 4, [])), (172, (35, 217, 175, 0, 0, 0, [])), (175, (1, 176, 3, 0, 0, 0, [])), (176, (0, 178, 0, 0, 0, 115, [])), (178, (0, 180, 0, 0, 0, 116, [])), (180, (0, 182, 0, 0, 0, 111, [])), (182, (0, 184, 0, 0, 0, 112, [])), (184, (18, 187, 115, 4, 109, 0, [])), (187, (35, 195, 190, 0, 0, 0, [])), (190, (0, 192, 0, 0, 0, 8, [])), (192, (12, 0, 216, 0, 0, 0, [])), (195, (1, 196, 3, 0, 0, 0, [])), (196, (0, 198, 0, 0, 0, 119, [])), (198, (0, 200, 0, 0, 0, 97, [])), (200, (0, 202, 0, 0, 0, 105, [])), (202, (0, 204, 0, 0, 0, 116, [])), (204, (18, 207, 115, 4, 109, 0, [])), (207, (35, 215, 210, 0, 0, 0, [])), (210, (0, 212, 0, 0, 0, 9, [])), (212, (12, 0, 216, 0, 0, 0, [])), (215, (0, 216, 0, 0, 0, 0, [])), (216, (19, 0, 0, 0, 0, 0, [])), (217, (1, 218, 2, 0, 0, 0, [])), (218, (0, 219, 0, 0, 0, 5, [])), (219, (35, 222, 224, 0, 0, 0, [])), (222, (0, 223, 0, 0, 0, 0, [])), (223, (19, 0, 0, 0, 0, 0, [])), (224, (1, 225, 3, 0, 0, 0, [])), (225, (0, 227, 0, 0, 0, 116, [])), (227, (0, 229, 0, 0, 0, 105, [])), (229, (0, 231, 0, 0, 0, 109, [])), (231, (0, 233, 0, 0, 0, 101, [])), (233, (18, 236, 115, 4, 109, 0, [])), (236, (35, 10250, 239, 0, 0, 0, [])), (239, (1, 241, 4, 0, 0, 0, [])), (241, (0, 243, 0, 0, 0, 114, [])), (243, (35, 10250, 246, 0, 0, 0, [])), (246, (0, 247, 0, 0, 0, 2, [])), (247, (12, 0, 304, 0, 0, 0, [])), (250, (1, 251, 3, 0, 0, 0, [])), (251, (0, 253, 0, 0, 0, 101, [])), (253, (0, 255, 0, 0, 0, 110, [])), (255, (0, 257, 0, 0, 0, 100, [])), (257, (0, 259, 0, 0, 0, 101, [])), (259, (18, 262, 115, 4, 109, 0, [])), (262, (35, 10276, 265, 0, 0, 0, [])), (265, (1, 267, 4, 0, 0, 0, [])), (267, (0, 269, 0, 0, 0, 100, [])), (269, (35, 10276, 272, 0, 0, 0, [])), (272, (0, 273, 0, 0, 0, 4, [])), (273, (12, 0, 304, 0, 0, 0, [])), (276, (1, 277, 3, 0, 0, 0, [])), (277, (0, 279, 0, 0, 0, 112, [])), (279, (0, 281, 0, 0, 0, 97, [])), (281, (0, 283, 0, 0, 0, 116, [])), (283, (0, 285, 0, 0, 0, 99, [])), (285, (18, 288, 115, 4, 109, 0, [])), (288, (35, 303, 291, 0, 0, 0, [])), (291, (1, 293, 4, 0, 0, 0, [])), (293, (0, 295, 0, 0, 0, 104, [])), (295, (35, 303, 298, 0, 0, 0, [])), (298, (0, 300, 0, 0, 0, 7, [])), (300, (12, 0, 304, 0, 0, 0, [])), (303, (0, 304, 0, 0, 0, 0, [])), (304, (19, 0, 0, 0, 0, 0, []))]
def zu_X8_nameOf : List (Nat × List Nat) := [(0, [0, 1, 2]), (38, [0, 1, 2, 3, 4]), (71, [0, 1, 2, 3]), (250, [3, 4]), (276, [3, 4])]
def zc_X8_tokenize : List (Nat × zO) := [(0, (2, 1, 0, 0, 0, 0, [])), (1, (0, 2, 0, 0, 0, 0, [])), (2, (15, 5, 8, 4, 71, 0, [])), (5, (0, 6, 0, 0, 0, 0, [])), (6, (4, 7, 1, 0, 0, 0, [])), (7, (0, 8, 0, 0, 0, 1, [])), (8, (4, 10009, 2, 0, 0, 0, [])), (9, (1, 10, 2, 0, 0, 0, [])), (10, (32, 13, 232, 0, 0, 0, [])), (13, (1, 14, 1, 0, 0, 0, [])), (14, (2, 15, 0, 0, 0, 0, [])), (15, (14, 18, 8, 2, 68, 0, [])), (18, (36, 232, 21, 0, 0, 0, [])), (21, (1, 22, 1, 0, 0, 0, [])), (22, (4, 23, 3, 0, 0, 0, [])), (23, (2, 24, 0, 0, 0, 0, [])), (24, (14, 27, 8, 1, 69, 0, [])), (27, (1, 28, 1, 0, 0, 0, [])), (28, (16, 29, 0, 0, 0, 0, [])), (29, (0, 31, 0, 0, 0, 32, [])), (31, (35, 40, 34, 0, 0, 0, [])), (34, (6, 37, 1, 0, 0, 1, [])), (37, (12, 0, 201, 0, 0, 0, [])), (40, (2, 41, 0, 0, 0, 0, [])), (41, (14, 44, 8, 1, 69, 0, [])), (44, (1, 45, 1, 0, 0, 0, [])), (45, (16, 46, 0, 0, 0, 0, [])), (46, (18, 49, 111, 1, 110, 0, [])), (49, (32, 52, 124, 0, 0, 0, [])), (52, (0, 53, 0, 0, 0, 0, [])), (53, (4, 10055, 4, 0, 0, 0, [])), (55, (2, 56, 0, 0, 0, 0, [])), (56, (1, 57, 1, 0, 0, 0, [])), (57, (18, 60, 110, 2, 111, 0, [(0, 8)])), (60, (18, 63, 111, 1, 110, 0, [])), (63, (32, 66, 101, 0, 0, 0, [])), (66, (1, 67, 1, 0, 0, 0, [])), (67, (1, 68, 3, 0, 0, 0, [])), (68, (7, 69, 0, 1, 0, 0, [])), (69, (0, 71, 0, 0, 0, 6, [])), (71, (36, 91, 74, 0, 0, 0, [])), (74, (0, 76, 0, 0, 0, 10, [])), (76, (1, 78, 4, 0, 0, 0, [])), (78, (7, 79, 0, 2, 0, 0, [])), (79, (2, 80, 0, 0, 0, 0, [])), (80, (1, 81, 1, 0, 0, 0, [])), (81, (18, 84, 110, 2, 111, 0, [(0, 8)])), (84, (7, 85, 0, 0, 0, 0, [])), (85, (0, 87, 0, 0, 0, 48, [])), (87, (7, 88, 0, 1, 0, 0, [])), (88, (12, 0, 93, 0, 0, 0, [])), (91, (1, 93, 4, 0, 0, 0, [])), (93, (4, 95, 4, 0, 0, 0, [])), (95, (6, 98, 1, 0, 0, 1, [])), (98, (12, 0, 10055, 0, 0, 0, [])), (101, (2, 102, 0, 0, 0, 0, [])), (102, (1, 103, 1, 0, 0, 0, [])), (103, (1, 104, 3, 0, 0, 0, [])), (104, (7, 105, 0, 1, 0, 0, [])), (105, (0, 107, 0, 0, 0, 6, [])), (107, (37, 114, 110, 0, 0, 0, [])), (110, (0, 111, 0, 0, 0, 4, [])), (111, (12, 0, 115, 0, 0, 0, [])), (114, (0, 115, 0, 0, 0, 2, [])), (115, (1, 116, 3, 0, 0, 0, [])), (116, (1, 118, 4, 0, 0, 0, [])), (118, (30, 121, 114, 4, 112, 0, [(0, 8)])), (121, (12, 0, 201, 0, 0, 0, [])), (124, (2, 125, 0, 0, 0, 0, [])), (125, (14, 128, 8, 1, 69, 0, [])), (128, (1, 129, 1, 0, 0, 0, [])), (129, (16, 130, 0, 0, 0, 0, [])), (130, (18, 133, 112, 1, 113, 0, [])), (133, (32, 10136, 170, 0, 0, 0, [])), (136, (2, 137, 0, 0, 0, 0, [])), (137, (1, 138, 1, 0, 0, 0, [])), (138, (18, 141, 110, 2, 111, 0, [(0, 8)])), (141, (18, 144, 112, 1, 113, 0, [])), (144, (32, 147, 153, 0, 0, 0, [])), (147, (6, 150, 1, 0, 0, 1, [])), (150, (12, 0, 10136, 0, 0, 0, [])), (153, (2, 154, 0, 0, 0, 0, [])), (154, (0, 155, 0, 0, 0, 1, [])), (155, (1, 156, 3, 0, 0, 0, [])), (156, (2, 157, 0, 0, 0, 0, [])), (157, (1, 158, 3, 0, 0, 0, [])), (158, (1, 159, 1, 0, 0, 0, [])), (159, (1, 160, 3, 0, 0, 0, [])), (160, (7, 161, 0, 1, 0, 0, [])), (161, (18, 164, 116, 3, 114, 0, [(0, 8)])), (164, (30, 167, 114, 4, 112, 0, [(0, 8)])), (167, (12, 0, 201, 0, 0, 0, [])), (170, (2, 171, 0, 0, 0, 0, [])), (171, (2, 172, 0, 0, 0, 0, [])), (172, (14, 175, 8, 1, 69, 0, [])), (175, (1, 176, 1, 0, 0, 0, [])), (176, (16, 177, 0, 0, 0, 0, [])), (177, (18, 180, 113, 1, 115, 0, [])), (180, (32, 183, 187, 0, 0, 0, [])), (183, (0, 184, 0, 0, 0, 3, [])), (184, (12, 0, 188, 0, 0, 0, [])), (187, (0, 188, 0, 0, 0, 4, [])), (188, (1, 189, 3, 0, 0, 0, [])), (189, (2, 190, 0, 0, 0, 0, [])), (190, (14, 193, 8, 1, 69, 0, [])), (193, (1, 194, 1, 0, 0, 0, [])), (194, (16, 195, 0, 0, 0, 0, [])), (195, (30, 198, 114, 4, 112, 0, [(0, 8)])), (198, (6, 201, 1, 0, 0, 1, [])), (201, (2, 202, 0, 0, 0, 0, [])), (202, (14, 205, 8, 4, 71, 0, [])), (205, (32, 208, 223, 0, 0, 0, [])), (208, (2, 209, 0, 0, 0, 0, [])), (209, (14, 212, 8, 5, 70, 0, [])), (212, (2, 213, 0, 0, 0, 0, [])), (213, (14, 216, 8, 4, 71, 0, [])), (216, (0, 217, 0, 0, 0, 1, [])), (217, (7, 218, 0, 1, 0, 0, [])), (218, (16, 219, 0, 0, 0, 0, [])), (219, (0, 220, 0, 0, 0, 4, [])), (220, (35, 223, 227, 0, 0, 0, [])), (223, (0, 224, 0, 0, 0, 1, [])), (224, (12, 0, 228, 0, 0, 0, [])), (227, (0, 228, 0, 0, 0, 0, [])), (228, (4, 229, 2, 0, 0, 0, [])), (229, (12, 0, 10009, 0, 0, 0, [])), (232, (2, 233, 0, 0, 0, 0, [])), (233, (0, 234, 0, 0, 0, 0, [])), (234, (2, 235, 0, 0, 0, 0, [])), (235, (14, 238, 8, 2, 68, 0, [])), (238, (0, 239, 0, 0, 0, 0, [])), (239, (30, 242, 114, 4, 112, 0, [(0, 8)])), (242, (20, 0, 0, 0, 0, 0, []))]
def zu_X8_tokenize : List (Nat × List Nat) := [(0, [0]), (9, [0, 1, 2]), (55, [0, 1, 3, 4]), (136, [0, 1, 3])]
def zc_X8_refuse : List (Nat × zO) := [(0, (2, 1, 0, 0, 0, 0, [])), (1, (2, 2, 0, 0, 0, 0, [])), (2, (14, 5, 8, 6, 72, 0, [])), (5, (2, 6, 0, 0, 0, 0, [])), (6, (14, 9, 8, 8, 74, 0, [])), (9, (16, 10, 0, 0, 0, 0, [])), (10, (15, 13, 8, 3, 75, 0, [])), (13, (0, 14, 0, 0, 0, 0, [])), (14, (19, 0, 0, 1, 0, 0, []))]
def zu_X8_refuse : List (Nat × List Nat) := [(0, [0])]
def zc_X8_is : List (Nat × zO) := [(0, (2, 1, 0, 0, 0, 0, [])), (1, (14, 4, 8, 5, 70, 0, [])), (4, (2, 5, 0, 0, 0, 0, [])), (5, (14, 8, 8, 8, 74, 0, [])), (8, (16, 9, 0, 0, 0, 0, [])), (9, (0, 10, 0, 0, 0, 3, [])), (10, (35, 30, 13, 0, 0, 0, [])), (13, (2, 14, 0, 0, 0, 0, [])), (14, (14, 17, 8, 7, 73, 0, [])), (17, (2, 18, 0, 0, 0, 0, [])), (18, (14, 21, 8, 8, 74, 0, [])), (21, (16, 22, 0, 0, 0, 0, [])), (22, (1, 23, 1, 0, 0, 0, [])), (23, (35, 30, 26, 0, 0, 0, [])), (26, (0, 27, 0, 0, 0, 1, [])), (27, (12, 0, 31, 0, 0, 0, [])), (30, (0, 31, 0, 0, 0, 0, [])), (31, (19, 0, 0, 1, 0, 0, []))]
def zu_X8_is : List (Nat × List Nat) := [(0, [0, 1])]
def zc_X8_takes : List (Nat × zO) := [(0, (2, 1, 0, 0, 0, 0, [])), (1, (1, 2, 1, 0, 0, 0, [])), (2, (18, 5, 119, 2, 116, 0, [(0, 8)])), (5, (4, 6, 2, 0, 0, 0, [])), (6, (1, 7, 2, 0, 0, 0, [])), (7, (32, 10, 20, 0, 0, 0, [])), (10, (2, 11, 0, 0, 0, 0, [])), (11, (21, 12, 0, 0, 0, 0, [])), (12, (14, 15, 8, 8, 74, 0, [])), (15, (0, 16, 0, 0, 0, 1, [])), (16, (7, 17, 0, 0, 0, 0, [])), (17, (15, 20, 8, 8, 74, 0, [])), (20, (1, 21, 2, 0, 0, 0, [])), (21, (19, 0, 0, 1, 0, 0, []))]
def zu_X8_takes : List (Nat × List Nat) := [(0, [0, 1])]
def zc_X8_want : List (Nat × zO) := [(0, (2, 1, 0, 0, 0, 0, [])), (1, (1, 2, 1, 0, 0, 0, [])), (2, (18, 5, 120, 2, 117, 0, [(0, 8)])), (5, (32, 15, 8, 0, 0, 0, [])), (8, (2, 9, 0, 0, 0, 0, [])), (9, (18, 12, 118, 1, 118, 0, [(0, 8)])), (12, (32, 15, 19, 0, 0, 0, [])), (15, (0, 16, 0, 0, 0, 1, [])), (16, (12, 0, 20, 0, 0, 0, [])), (19, (0, 20, 0, 0, 0, 0, [])), (20, (19, 0, 0, 1, 0, 0, []))]
def zu_X8_want : List (Nat × List Nat) := [(0, [0, 1])]
def zc_X8_deeper : List (Nat × zO) := [(0, (2, 1, 0, 0, 0, 0, [])), (1, (14, 4, 8, 9, 76, 0, [])), (4, (0, 6, 0, 0, 0, 10, [])), (6, (35, 14, 9, 0, 0, 0, [])), (9, (2, 10, 0, 0, 0, 0, [])), (10, (18, 13, 118, 1, 118, 0, [(0, 8)])), (13, (19, 0, 0, 1, 0, 0, [])), (14, (2, 15, 0, 0, 0, 0, [])), (15, (21, 16, 0, 0, 0, 0, [])), (16, (14, 19, 8, 9, 76, 0, [])), (19, (0, 20, 0, 0, 0, 1, [])), (20, (7, 21, 0, 0, 0, 0, [])), (21, (15, 24, 8, 9, 76, 0, [])), (24, (2, 25, 0, 0, 0, 0, [])), (25, (21, 26, 0, 0, 0, 0, [])), (26, (14, 29, 8, 8, 74, 0, [])), (29, (0, 30, 0, 0, 0, 1, [])), (30, (7, 31, 0, 0, 0, 0, [])), (31, (15, 34, 8, 8, 74, 0, [])), (34, (0, 35, 0, 0, 0, 1, [])), (35, (19, 0, 0, 1, 0, 0, []))]
def zu_X8_deeper : List (Nat × List Nat) := [(0, [0])]
def zc_X8_node : List (Nat × zO) := [(0, (0, 3, 0, 0, 0, 800, [])), (3, (0, 4, 0, 0, 0, 1, [])), (4, (2, 5, 0, 0, 0, 0, [])), (5, (14, 8, 8, 10, 77, 0, [])), (8, (7, 9, 0, 1, 0, 0, [])), (9, (7, 10, 0, 2, 0, 0, [])), (10, (2, 11, 0, 0, 0, 0, [])), (11, (14, 14, 8, 13, 78, 0, [])), (14, (0, 15, 0, 0, 0, 1, [])), (15, (2, 16, 0, 0, 0, 0, [])), (16, (14, 19, 8, 10, 77, 0, [])), (19, (7, 20, 0, 1, 0, 0, [])), (20, (16, 21, 0, 0, 0, 0, [])), (21, (7, 22, 0, 0, 0, 0, [])), (22, (4, 10024, 5, 0, 0, 0, [])), (24, (2, 25, 0, 0, 0, 0, [])), (25, (14, 28, 8, 13, 78, 0, [])), (28, (0, 29, 0, 0, 0, 1, [])), (29, (2, 30, 0, 0, 0, 0, [])), (30, (14, 33, 8, 10, 77, 0, [])), (33, (7, 34, 0, 1, 0, 0, [])), (34, (23, 35, 0, 0, 0, 0, [])), (35, (16, 36, 0, 0, 0, 0, [])), (36, (0, 37, 0, 0, 0, 1, [])), (37, (7, 38, 0, 0, 0, 0, [])), (38, (17, 39, 0, 0, 0, 0, [])), (39, (2, 40, 0, 0, 0, 0, [])), (40, (14, 43, 8, 15, 79, 0, [])), (43, (1, 45, 5, 0, 0, 0, [])), (45, (1, 46, 1, 0, 0, 0, [])), (46, (17, 10047, 0, 0, 0, 0, [])), (47, (2, 48, 0, 0, 0, 0, [])), (48, (14, 51, 8, 16, 80, 0, [])), (51, (1, 53, 5, 0, 0, 0, [])), (53, (1, 54, 2, 0, 0, 0, [])), (54, (17, 55, 0, 0, 0, 0, [])), (55, (2, 56, 0, 0, 0, 0, [])), (56, (14, 59, 8, 17, 81, 0, [])), (59, (1, 61, 5, 0, 0, 0, [])), (61, (1, 62, 3, 0, 0, 0, [])), (62, (17, 10063, 0, 0, 0, 0, [])), (63, (2, 64, 0, 0, 0, 0, [])), (64, (14, 67, 8, 18, 82, 0, [])), (67, (1, 69, 5, 0, 0, 0, [])), (69, (1, 71, 4, 0, 0, 0, [])), (71, (17, 72, 0, 0, 0, 0, [])), (72, (2, 73, 0, 0, 0, 0, [])), (73, (14, 76, 8, 19, 83, 0, [])), (76, (1, 78, 5, 0, 0, 0, [])), (78, (0, 79, 0, 0, 0, (-1), [])), (79, (17, 80, 0, 0, 0, 0, [])), (80, (1, 82, 5, 0, 0, 0, [])), (82, (19, 0, 0, 0, 0, 0, []))]
def zu_X8_node : List (Nat × List Nat) := [(0, [0, 1, 2, 3, 4]), (24, [0, 1, 2, 3, 4, 5]), (47, [0, 2, 3, 4, 5]), (63, [0, 4, 5])]
def zc_X8_readX : List (Nat × zO) := [(0, (2, 1, 0, 0, 0, 0, [])), (1, (18, 4, 125, 1, 119, 0, [(0, 8)])), (4, (32, 9, 7, 0, 0, 0, [])), (7, (0, 8, 0, 0, 0, 0, [])), (8, (19, 0, 0, 1, 0, 0, [])), (9, (2, 10, 0, 0, 0, 0, [])), (10, (0, 12, 0, 0, 0, 60, [])), (12, (18, 15, 120, 2, 117, 0, [(0, 8)])), (15, (32, 20, 18, 0, 0, 0, [])), (18, (0, 19, 0, 0, 0, 1, [])), (19, (19, 0, 0, 1, 0, 0, [])), (20, (2, 21, 0, 0, 0, 0, [])), (21, (14, 24, 8, 41, 84, 0, [])), (24, (4, 25, 1, 0, 0, 0, [])), (25, (2, 26, 0, 0, 0, 0, [])), (26, (18, 29, 125, 1, 119, 0, [(0, 8)])), (29, (32, 34, 32, 0, 0, 0, [])), (32, (0, 33, 0, 0, 0, 0, [])), (33, (19, 0, 0, 1, 0, 0, [])), (34, (2, 35, 0, 0, 0, 0, [])), (35, (2, 36, 0, 0, 0, 0, [])), (36, (0, 38, 0, 0, 0, 60, [])), (38, (1, 39, 1, 0, 0, 0, [])), (39, (2, 40, 0, 0, 0, 0, [])), (40, (14, 43, 8, 41, 84, 0, [])), (43, (0, 44, 0, 0, 0, 0, [])), (44, (18, 47, 123, 5, 120, 0, [(0, 8)])), (47, (15, 50, 8, 41, 84, 0, [])), (50, (0, 51, 0, 0, 0, 1, [])), (51, (19, 0, 0, 1, 0, 0, []))]
def zu_X8_readX : List (Nat × List Nat) := [(0, [0])]
def zc_X8_readSum : List (Nat × zO) := [(0, (2, 1, 0, 0, 0, 0, [])), (1, (18, 4, 126, 1, 121, 0, [(0, 8)])), (4, (32, 10009, 7, 0, 0, 0, [])), (7, (0, 8, 0, 0, 0, 0, [])), (8, (19, 0, 0, 1, 0, 0, [])), (9, (2, 10, 0, 0, 0, 0, [])), (10, (0, 12, 0, 0, 0, 43, [])), (12, (18, 15, 119, 2, 116, 0, [(0, 8)])), (15, (32, 27, 18, 0, 0, 0, [])), (18, (2, 19, 0, 0, 0, 0, [])), (19, (0, 21, 0, 0, 0, 45, [])), (21, (18, 24, 119, 2, 116, 0, [(0, 8)])), (24, (32, 27, 79, 0, 0, 0, [])), (27, (2, 28, 0, 0, 0, 0, [])), (28, (14, 31, 8, 7, 73, 0, [])), (31, (2, 32, 0, 0, 0, 0, [])), (32, (14, 35, 8, 8, 74, 0, [])), (35, (16, 36, 0, 0, 0, 0, [])), (36, (4, 37, 1, 0, 0, 0, [])), (37, (2, 38, 0, 0, 0, 0, [])), (38, (14, 41, 8, 41, 84, 0, [])), (41, (4, 42, 2, 0, 0, 0, [])), (42, (2, 43, 0, 0, 0, 0, [])), (43, (21, 44, 0, 0, 0, 0, [])), (44, (14, 47, 8, 8, 74, 0, [])), (47, (0, 48, 0, 0, 0, 1, [])), (48, (7, 49, 0, 0, 0, 0, [])), (49, (15, 52, 8, 8, 74, 0, [])), (52, (2, 53, 0, 0, 0, 0, [])), (53, (18, 56, 126, 1, 121, 0, [(0, 8)])), (56, (32, 61, 59, 0, 0, 0, [])), (59, (0, 60, 0, 0, 0, 0, [])), (60, (19, 0, 0, 1, 0, 0, [])), (61, (2, 62, 0, 0, 0, 0, [])), (62, (2, 63, 0, 0, 0, 0, [])), (63, (1, 64, 1, 0, 0, 0, [])), (64, (1, 65, 2, 0, 0, 0, [])), (65, (2, 66, 0, 0, 0, 0, [])), (66, (14, 69, 8, 41, 84, 0, [])), (69, (0, 70, 0, 0, 0, 0, [])), (70, (18, 73, 123, 5, 120, 0, [(0, 8)])), (73, (15, 76, 8, 41, 84, 0, [])), (76, (12, 0, 10009, 0, 0, 0, [])), (79, (0, 80, 0, 0, 0, 1, [])), (80, (19, 0, 0, 1, 0, 0, []))]
def zu_X8_readSum : List (Nat × List Nat) := [(0, [0]), (9, [0])]
def zc_X8_readTerm : List (Nat × zO) := [(0, (2, 1, 0, 0, 0, 0, [])), (1, (18, 4, 127, 1, 122, 0, [(0, 8)])), (4, (32, 10009, 7, 0, 0, 0, [])), (7, (0, 8, 0, 0, 0, 0, [])), (8, (19, 0, 0, 1, 0, 0, [])), (9, (2, 10, 0, 0, 0, 0, [])), (10, (0, 12, 0, 0, 0, 42, [])), (12, (18, 15, 120, 2, 117, 0, [(0, 8)])), (15, (32, 18, 51, 0, 0, 0, [])), (18, (2, 19, 0, 0, 0, 0, [])), (19, (14, 22, 8, 41, 84, 0, [])), (22, (4, 23, 1, 0, 0, 0, [])), (23, (2, 24, 0, 0, 0, 0, [])), (24, (18, 27, 127, 1, 122, 0, [(0, 8)])), (27, (32, 32, 30, 0, 0, 0, [])), (30, (0, 31, 0, 0, 0, 0, [])), (31, (19, 0, 0, 1, 0, 0, [])), (32, (2, 33, 0, 0, 0, 0, [])), (33, (2, 34, 0, 0, 0, 0, [])), (34, (0, 36, 0, 0, 0, 42, [])), (36, (1, 37, 1, 0, 0, 0, [])), (37, (2, 38, 0, 0, 0, 0, [])), (38, (14, 41, 8, 41, 84, 0, [])), (41, (0, 42, 0, 0, 0, 0, [])), (42, (18, 45, 123, 5, 120, 0, [(0, 8)])), (45, (15, 48, 8, 41, 84, 0, [])), (48, (12, 0, 10009, 0, 0, 0, [])), (51, (0, 52, 0, 0, 0, 1, [])), (52, (19, 0, 0, 1, 0, 0, []))]
def zu_X8_readTerm : List (Nat × List Nat) := [(0, [0]), (9, [0])]
def zc_X8_readFactor : List (Nat × zO) := [(0, (2, 1, 0, 0, 0, 0, [])), (1, (14, 4, 8, 5, 70, 0, [])), (4, (2, 5, 0, 0, 0, 0, [])), (5, (14, 8, 8, 8, 74, 0, [])), (8, (16, 9, 0, 0, 0, 0, [])), (9, (0, 10, 0, 0, 0, 2, [])), (10, (35, 46, 13, 0, 0, 0, [])), (13, (2, 14, 0, 0, 0, 0, [])), (14, (2, 15, 0, 0, 0, 0, [])), (15, (0, 17, 0, 0, 0, 48, [])), (17, (2, 18, 0, 0, 0, 0, [])), (18, (14, 21, 8, 7, 73, 0, [])), (21, (2, 22, 0, 0, 0, 0, [])), (22, (14, 25, 8, 8, 74, 0, [])), (25, (16, 26, 0, 0, 0, 0, [])), (26, (0, 27, 0, 0, 0, 0, [])), (27, (0, 28, 0, 0, 0, 0, [])), (28, (18, 31, 123, 5, 120, 0, [(0, 8)])), (31, (15, 34, 8, 41, 84, 0, [])), (34, (2, 35, 0, 0, 0, 0, [])), (35, (21, 36, 0, 0, 0, 0, [])), (36, (14, 39, 8, 8, 74, 0, [])), (39, (0, 40, 0, 0, 0, 1, [])), (40, (7, 41, 0, 0, 0, 0, [])), (41, (15, 44, 8, 8, 74, 0, [])), (44, (0, 45, 0, 0, 0, 1, [])), (45, (19, 0, 0, 1, 0, 0, [])), (46, (2, 47, 0, 0, 0, 0, [])), (47, (14, 50, 8, 5, 70, 0, [])), (50, (2, 51, 0, 0, 0, 0, [])), (51, (14, 54, 8, 8, 74, 0, [])), (54, (16, 55, 0, 0, 0, 0, [])), (55, (0, 56, 0, 0, 0, 1, [])), (56, (35, 10109, 59, 0, 0, 0, [])), (59, (2, 60, 0, 0, 0, 0, [])), (60, (14, 63, 8, 7, 73, 0, [])), (63, (2, 64, 0, 0, 0, 0, [])), (64, (14, 67, 8, 8, 74, 0, [])), (67, (16, 68, 0, 0, 0, 0, [])), (68, (0, 70, 0, 0, 0, 20, [])), (70, (36, 73, 10109, 0, 0, 0, [])), (73, (2, 74, 0, 0, 0, 0, [])), (74, (2, 75, 0, 0, 0, 0, [])), (75, (0, 77, 0, 0, 0, 114, [])), (77, (2, 78, 0, 0, 0, 0, [])), (78, (14, 81, 8, 7, 73, 0, [])), (81, (2, 82, 0, 0, 0, 0, [])), (82, (14, 85, 8, 8, 74, 0, [])), (85, (16, 86, 0, 0, 0, 0, [])), (86, (0, 88, 0, 0, 0, 20, [])), (88, (7, 89, 0, 1, 0, 0, [])), (89, (0, 90, 0, 0, 0, 0, [])), (90, (0, 91, 0, 0, 0, 0, [])), (91, (18, 94, 123, 5, 120, 0, [(0, 8)])), (94, (15, 97, 8, 41, 84, 0, [])), (97, (2, 98, 0, 0, 0, 0, [])), (98, (21, 99, 0, 0, 0, 0, [])), (99, (14, 102, 8, 8, 74, 0, [])), (102, (0, 103, 0, 0, 0, 1, [])), (103, (7, 104, 0, 0, 0, 0, [])), (104, (15, 107, 8, 8, 74, 0, [])), (107, (0, 108, 0, 0, 0, 1, [])), (108, (19, 0, 0, 1, 0, 0, [])), (109, (2, 110, 0, 0, 0, 0, [])), (110, (0, 112, 0, 0, 0, 45, [])), (112, (18, 115, 119, 2, 116, 0, [(0, 8)])), (115, (4, 116, 1, 0, 0, 0, [])), (116, (1, 117, 1, 0, 0, 0, [])), (117, (32, 10134, 120, 0, 0, 0, [])), (120, (2, 121, 0, 0, 0, 0, [])), (121, (0, 123, 0, 0, 0, 40, [])), (123, (18, 126, 119, 2, 116, 0, [(0, 8)])), (126, (32, 10134, 129, 0, 0, 0, [])), (129, (2, 130, 0, 0, 0, 0, [])), (130, (18, 133, 118, 1, 118, 0, [(0, 8)])), (133, (19, 0, 0, 1, 0, 0, [])), (134, (2, 135, 0, 0, 0, 0, [])), (135, (18, 138, 122, 1, 123, 0, [(0, 8)])), (138, (32, 143, 141, 0, 0, 0, [])), (141, (0, 142, 0, 0, 0, 0, [])), (142, (19, 0, 0, 1, 0, 0, [])), (143, (1, 144, 1, 0, 0, 0, [])), (144, (32, 147, 157, 0, 0, 0, [])), (147, (2, 148, 0, 0, 0, 0, [])), (148, (18, 151, 127, 1, 122, 0, [(0, 8)])), (151, (32, 175, 154, 0, 0, 0, [])), (154, (12, 0, 173, 0, 0, 0, [])), (157, (2, 158, 0, 0, 0, 0, [])), (158, (18, 161, 124, 1, 124, 0, [(0, 8)])), (161, (32, 164, 173, 0, 0, 0, [])), (164, (2, 165, 0, 0, 0, 0, [])), (165, (0, 167, 0, 0, 0, 41, [])), (167, (18, 170, 121, 2, 125, 0, [(0, 8)])), (170, (32, 175, 173, 0, 0, 0, [])), (173, (0, 174, 0, 0, 0, 0, [])), (174, (19, 0, 0, 1, 0, 0, [])), (175, (1, 176, 1, 0, 0, 0, [])), (176, (32, 179, 195, 0, 0, 0, [])), (179, (2, 180, 0, 0, 0, 0, [])), (180, (2, 181, 0, 0, 0, 0, [])), (181, (0, 183, 0, 0, 0, 110, [])), (183, (2, 184, 0, 0, 0, 0, [])), (184, (14, 187, 8, 41, 84, 0, [])), (187, (0, 188, 0, 0, 0, 0, [])), (188, (0, 189, 0, 0, 0, 0, [])), (189, (18, 192, 123, 5, 120, 0, [(0, 8)])), (192, (15, 195, 8, 41, 84, 0, [])), (195, (2, 196, 0, 0, 0, 0, [])), (196, (21, 197, 0, 0, 0, 0, [])), (197, (14, 200, 8, 9, 76, 0, [])), (200, (0, 201, 0, 0, 0, 1, [])), (201, (7, 202, 0, 1, 0, 0, [])), (202, (15, 205, 8, 9, 76, 0, [])), (205, (0, 206, 0, 0, 0, 1, [])), (206, (19, 0, 0, 1, 0, 0, []))]
def zu_X8_readFactor : List (Nat × List Nat) := [(0, [0]), (109, [0]), (134, [0, 1])]
def zc_X8_readRegister : List (Nat × zO) := [(0, (2, 1, 0, 0, 0, 0, [])), (1, (14, 4, 8, 5, 70, 0, [])), (4, (2, 5, 0, 0, 0, 0, [])), (5, (14, 8, 8, 8, 74, 0, [])), (8, (16, 9, 0, 0, 0, 0, [])), (9, (0, 10, 0, 0, 0, 1, [])), (10, (35, 27, 13, 0, 0, 0, [])), (13, (2, 14, 0, 0, 0, 0, [])), (14, (14, 17, 8, 7, 73, 0, [])), (17, (2, 18, 0, 0, 0, 0, [])), (18, (14, 21, 8, 8, 74, 0, [])), (21, (16, 22, 0, 0, 0, 0, [])), (22, (0, 24, 0, 0, 0, 20, [])), (24, (36, 32, 27, 0, 0, 0, [])), (27, (2, 28, 0, 0, 0, 0, [])), (28, (18, 31, 118, 1, 118, 0, [(0, 8)])), (31, (19, 0, 0, 1, 0, 0, [])), (32, (2, 33, 0, 0, 0, 0, [])), (33, (2, 34, 0, 0, 0, 0, [])), (34, (14, 37, 8, 7, 73, 0, [])), (37, (2, 38, 0, 0, 0, 0, [])), (38, (14, 41, 8, 8, 74, 0, [])), (41, (16, 42, 0, 0, 0, 0, [])), (42, (0, 44, 0, 0, 0, 20, [])), (44, (7, 45, 0, 1, 0, 0, [])), (45, (15, 48, 8, 42, 85, 0, [])), (48, (2, 49, 0, 0, 0, 0, [])), (49, (21, 50, 0, 0, 0, 0, [])), (50, (14, 53, 8, 8, 74, 0, [])), (53, (0, 54, 0, 0, 0, 1, [])), (54, (7, 55, 0, 0, 0, 0, [])), (55, (15, 58, 8, 8, 74, 0, [])), (58, (0, 59, 0, 0, 0, 1, [])), (59, (19, 0, 0, 1, 0, 0, []))]
def zu_X8_readRegister : List (Nat × List Nat) := [(0, [0])]
def zc_X8_readNumber : List (Nat × zO) := [(0, (2, 1, 0, 0, 0, 0, [])), (1, (14, 4, 8, 5, 70, 0, [])), (4, (2, 5, 0, 0, 0, 0, [])), (5, (14, 8, 8, 8, 74, 0, [])), (8, (16, 9, 0, 0, 0, 0, [])), (9, (0, 10, 0, 0, 0, 2, [])), (10, (35, 13, 18, 0, 0, 0, [])), (13, (2, 14, 0, 0, 0, 0, [])), (14, (18, 17, 118, 1, 118, 0, [(0, 8)])), (17, (19, 0, 0, 1, 0, 0, [])), (18, (2, 19, 0, 0, 0, 0, [])), (19, (2, 20, 0, 0, 0, 0, [])), (20, (14, 23, 8, 7, 73, 0, [])), (23, (2, 24, 0, 0, 0, 0, [])), (24, (14, 27, 8, 8, 74, 0, [])), (27, (16, 28, 0, 0, 0, 0, [])), (28, (15, 31, 8, 43, 86, 0, [])), (31, (2, 32, 0, 0, 0, 0, [])), (32, (21, 33, 0, 0, 0, 0, [])), (33, (14, 36, 8, 8, 74, 0, [])), (36, (0, 37, 0, 0, 0, 1, [])), (37, (7, 38, 0, 0, 0, 0, [])), (38, (15, 41, 8, 8, 74, 0, [])), (41, (0, 42, 0, 0, 0, 1, [])), (42, (19, 0, 0, 1, 0, 0, []))]
def zu_X8_readNumber : List (Nat × List Nat) := [(0, [0])]
def zc_X8_readList : List (Nat × zO) := [(0, (0, 1, 0, 0, 0, (-1), [])), (1, (4, 2, 1, 0, 0, 0, [])), (2, (0, 3, 0, 0, 0, (-1), [])), (3, (4, 10004, 2, 0, 0, 0, [])), (4, (2, 5, 0, 0, 0, 0, [])), (5, (14, 8, 8, 5, 70, 0, [])), (8, (2, 9, 0, 0, 0, 0, [])), (9, (14, 12, 8, 8, 74, 0, [])), (12, (16, 13, 0, 0, 0, 0, [])), (13, (32, 16, 74, 0, 0, 0, [])), (16, (2, 17, 0, 0, 0, 0, [])), (17, (0, 19, 0, 0, 0, 93, [])), (19, (18, 22, 119, 2, 116, 0, [(0, 8)])), (22, (32, 74, 25, 0, 0, 0, [])), (25, (2, 26, 0, 0, 0, 0, [])), (26, (0, 28, 0, 0, 0, 124, [])), (28, (18, 31, 119, 2, 116, 0, [(0, 8)])), (31, (32, 74, 34, 0, 0, 0, [])), (34, (2, 35, 0, 0, 0, 0, [])), (35, (18, 38, 131, 1, 126, 0, [(0, 8)])), (38, (32, 43, 41, 0, 0, 0, [])), (41, (0, 42, 0, 0, 0, 0, [])), (42, (19, 0, 0, 1, 0, 0, [])), (43, (1, 44, 1, 0, 0, 0, [])), (44, (0, 45, 0, 0, 0, (-1), [])), (45, (35, 56, 48, 0, 0, 0, [])), (48, (2, 49, 0, 0, 0, 0, [])), (49, (14, 52, 8, 41, 84, 0, [])), (52, (4, 53, 1, 0, 0, 0, [])), (53, (12, 0, 66, 0, 0, 0, [])), (56, (2, 57, 0, 0, 0, 0, [])), (57, (14, 60, 8, 19, 83, 0, [])), (60, (1, 61, 2, 0, 0, 0, [])), (61, (2, 62, 0, 0, 0, 0, [])), (62, (14, 65, 8, 41, 84, 0, [])), (65, (17, 66, 0, 0, 0, 0, [])), (66, (2, 67, 0, 0, 0, 0, [])), (67, (14, 70, 8, 41, 84, 0, [])), (70, (4, 71, 2, 0, 0, 0, [])), (71, (12, 0, 10004, 0, 0, 0, [])), (74, (2, 75, 0, 0, 0, 0, [])), (75, (1, 76, 1, 0, 0, 0, [])), (76, (15, 79, 8, 41, 84, 0, [])), (79, (0, 80, 0, 0, 0, 1, [])), (80, (19, 0, 0, 1, 0, 0, []))]
def zu_X8_readList : List (Nat × List Nat) := [(0, [0]), (4, [0, 1, 2])]
def zc_X8_readStatement : List (Nat × zO) := [(0, (2, 1, 0, 0, 0, 0, [])), (1, (21, 2, 0, 0, 0, 0, [])), (2, (14, 5, 8, 14, 87, 0, [])), (5, (0, 6, 0, 0, 0, 1, [])), (6, (7, 7, 0, 0, 0, 0, [])), (7, (15, 10, 8, 14, 87, 0, [])), (10, (2, 11, 0, 0, 0, 0, [])), (11, (0, 13, 0, 0, 0, 63, [])), (13, (18, 16, 119, 2, 116, 0, [(0, 8)])), (16, (32, 28, 19, 0, 0, 0, [])), (19, (2, 20, 0, 0, 0, 0, [])), (20, (0, 22, 0, 0, 0, 64, [])), (22, (18, 25, 119, 2, 116, 0, [(0, 8)])), (25, (32, 28, 39, 0, 0, 0, [])), (28, (2, 29, 0, 0, 0, 0, [])), (29, (2, 30, 0, 0, 0, 0, [])), (30, (0, 32, 0, 0, 0, 63, [])), (32, (18, 35, 119, 2, 116, 0, [(0, 8)])), (35, (18, 38, 132, 2, 127, 0, [(0, 8)])), (38, (19, 0, 0, 1, 0, 0, [])), (39, (2, 40, 0, 0, 0, 0, [])), (40, (14, 43, 8, 5, 70, 0, [])), (43, (2, 44, 0, 0, 0, 0, [])), (44, (14, 47, 8, 8, 74, 0, [])), (47, (16, 48, 0, 0, 0, 0, [])), (48, (0, 49, 0, 0, 0, 1, [])), (49, (35, 10108, 52, 0, 0, 0, [])), (52, (2, 53, 0, 0, 0, 0, [])), (53, (14, 56, 8, 7, 73, 0, [])), (56, (2, 57, 0, 0, 0, 0, [])), (57, (14, 60, 8, 8, 74, 0, [])), (60, (16, 61, 0, 0, 0, 0, [])), (61, (0, 63, 0, 0, 0, 8, [])), (63, (35, 10108, 66, 0, 0, 0, [])), (66, (2, 67, 0, 0, 0, 0, [])), (67, (21, 68, 0, 0, 0, 0, [])), (68, (14, 71, 8, 8, 74, 0, [])), (71, (0, 72, 0, 0, 0, 1, [])), (72, (7, 73, 0, 0, 0, 0, [])), (73, (15, 76, 8, 8, 74, 0, [])), (76, (2, 77, 0, 0, 0, 0, [])), (77, (18, 80, 124, 1, 124, 0, [(0, 8)])), (80, (32, 85, 83, 0, 0, 0, [])), (83, (0, 84, 0, 0, 0, 0, [])), (84, (19, 0, 0, 1, 0, 0, [])), (85, (2, 86, 0, 0, 0, 0, [])), (86, (2, 87, 0, 0, 0, 0, [])), (87, (0, 89, 0, 0, 0, 8, [])), (89, (2, 90, 0, 0, 0, 0, [])), (90, (14, 93, 8, 41, 84, 0, [])), (93, (0, 94, 0, 0, 0, 0, [])), (94, (0, 95, 0, 0, 0, 0, [])), (95, (18, 98, 123, 5, 120, 0, [(0, 8)])), (98, (15, 101, 8, 41, 84, 0, [])), (101, (2, 102, 0, 0, 0, 0, [])), (102, (0, 104, 0, 0, 0, 59, [])), (104, (18, 107, 121, 2, 125, 0, [(0, 8)])), (107, (19, 0, 0, 1, 0, 0, [])), (108, (2, 109, 0, 0, 0, 0, [])), (109, (18, 112, 128, 1, 128, 0, [(0, 8)])), (112, (32, 117, 115, 0, 0, 0, [])), (115, (0, 116, 0, 0, 0, 0, [])), (116, (19, 0, 0, 1, 0, 0, [])), (117, (2, 118, 0, 0, 0, 0, [])), (118, (14, 121, 8, 42, 85, 0, [])), (121, (4, 122, 1, 0, 0, 0, [])), (122, (2, 123, 0, 0, 0, 0, [])), (123, (0, 125, 0, 0, 0, 61, [])), (125, (18, 128, 121, 2, 125, 0, [(0, 8)])), (128, (32, 133, 131, 0, 0, 0, [])), (131, (0, 132, 0, 0, 0, 0, [])), (132, (19, 0, 0, 1, 0, 0, [])), (133, (2, 134, 0, 0, 0, 0, [])), (134, (14, 137, 8, 5, 70, 0, [])), (137, (2, 138, 0, 0, 0, 0, [])), (138, (14, 141, 8, 8, 74, 0, [])), (141, (16, 142, 0, 0, 0, 0, [])), (142, (0, 143, 0, 0, 0, 1, [])), (143, (35, 10172, 146, 0, 0, 0, [])), (146, (2, 147, 0, 0, 0, 0, [])), (147, (14, 150, 8, 7, 73, 0, [])), (150, (2, 151, 0, 0, 0, 0, [])), (151, (14, 154, 8, 8, 74, 0, [])), (154, (16, 155, 0, 0, 0, 0, [])), (155, (0, 157, 0, 0, 0, 20, [])), (157, (36, 10172, 160, 0, 0, 0, [])), (160, (2, 161, 0, 0, 0, 0, [])), (161, (14, 164, 8, 7, 73, 0, [])), (164, (2, 165, 0, 0, 0, 0, [])), (165, (14, 168, 8, 8, 74, 0, [])), (168, (16, 169, 0, 0, 0, 0, [])), (169, (12, 0, 174, 0, 0, 0, [])), (172, (0, 174, 0, 0, 0, 10, [])), (174, (4, 175, 2, 0, 0, 0, [])), (175, (1, 176, 2, 0, 0, 0, [])), (176, (32, 179, 185, 0, 0, 0, [])), (179, (1, 180, 2, 0, 0, 0, [])), (180, (0, 182, 0, 0, 0, 8, [])), (182, (35, 190, 185, 0, 0, 0, [])), (185, (2, 186, 0, 0, 0, 0, [])), (186, (18, 189, 118, 1, 118, 0, [(0, 8)])), (189, (19, 0, 0, 1, 0, 0, [])), (190, (1, 191, 2, 0, 0, 0, [])), (191, (0, 193, 0, 0, 0, 10, [])), (193, (35, 196, 10206, 0, 0, 0, [])), (196, (2, 197, 0, 0, 0, 0, [])), (197, (21, 198, 0, 0, 0, 0, [])), (198, (14, 201, 8, 8, 74, 0, [])), (201, (0, 202, 0, 0, 0, 1, [])), (202, (7, 203, 0, 0, 0, 0, [])), (203, (15, 10206, 8, 8, 74, 0, [])), (206, (0, 207, 0, 0, 0, 0, [])), (207, (4, 208, 3, 0, 0, 0, [])), (208, (0, 209, 0, 0, 0, 0, [])), (209, (4, 211, 4, 0, 0, 0, [])), (211, (1, 212, 2, 0, 0, 0, [])), (212, (0, 213, 0, 0, 0, 1, [])), (213, (35, 216, 10222, 0, 0, 0, [])), (216, (1, 217, 2, 0, 0, 0, [])), (217, (0, 219, 0, 0, 0, 7, [])), (219, (35, 10252, 10222, 0, 0, 0, [])), (222, (2, 223, 0, 0, 0, 0, [])), (223, (18, 226, 129, 1, 129, 0, [(0, 8)])), (226, (32, 231, 229, 0, 0, 0, [])), (229, (0, 230, 0, 0, 0, 0, [])), (230, (19, 0, 0, 1, 0, 0, [])), (231, (2, 232, 0, 0, 0, 0, [])), (232, (14, 235, 8, 43, 86, 0, [])), (235, (4, 236, 3, 0, 0, 0, [])), (236, (1, 237, 2, 0, 0, 0, [])), (237, (0, 238, 0, 0, 0, 1, [])), (238, (35, 10252, 241, 0, 0, 0, [])), (241, (2, 242, 0, 0, 0, 0, [])), (242, (0, 244, 0, 0, 0, 44, [])), (244, (18, 247, 121, 2, 125, 0, [(0, 8)])), (247, (32, 10252, 250, 0, 0, 0, [])), (250, (0, 251, 0, 0, 0, 0, [])), (251, (19, 0, 0, 1, 0, 0, [])), (252, (1, 253, 2, 0, 0, 0, [])), (253, (0, 255, 0, 0, 0, 9, [])), (255, (35, 258, 268, 0, 0, 0, [])), (258, (1, 259, 2, 0, 0, 0, [])), (259, (0, 260, 0, 0, 0, 4, [])), (260, (35, 263, 268, 0, 0, 0, [])), (263, (1, 264, 2, 0, 0, 0, [])), (264, (0, 265, 0, 0, 0, 3, [])), (265, (35, 10282, 268, 0, 0, 0, [])), (268, (2, 269, 0, 0, 0, 0, [])), (269, (18, 272, 128, 1, 128, 0, [(0, 8)])), (272, (32, 277, 275, 0, 0, 0, [])), (275, (0, 276, 0, 0, 0, 0, [])), (276, (19, 0, 0, 1, 0, 0, [])), (277, (2, 278, 0, 0, 0, 0, [])), (278, (14, 281, 8, 42, 85, 0, [])), (281, (4, 10282, 3, 0, 0, 0, [])), (282, (1, 283, 2, 0, 0, 0, [])), (283, (0, 284, 0, 0, 0, 3, [])), (284, (35, 10311, 287, 0, 0, 0, [])), (287, (2, 288, 0, 0, 0, 0, [])), (288, (0, 290, 0, 0, 0, 44, [])), (290, (18, 293, 121, 2, 125, 0, [(0, 8)])), (293, (32, 296, 303, 0, 0, 0, [])), (296, (2, 297, 0, 0, 0, 0, [])), (297, (18, 300, 128, 1, 128, 0, [(0, 8)])), (300, (32, 305, 303, 0, 0, 0, [])), (303, (0, 304, 0, 0, 0, 0, [])), (304, (19, 0, 0, 1, 0, 0, [])), (305, (2, 306, 0, 0, 0, 0, [])), (306, (14, 309, 8, 42, 85, 0, [])), (309, (4, 10311, 4, 0, 0, 0, [])), (311, (1, 312, 2, 0, 0, 0, [])), (312, (0, 314, 0, 0, 0, 10, [])), (314, (35, 317, 327, 0, 0, 0, [])), (317, (1, 318, 2, 0, 0, 0, [])), (318, (0, 319, 0, 0, 0, 1, [])), (319, (35, 322, 327, 0, 0, 0, [])), (322, (1, 323, 2, 0, 0, 0, [])), (323, (0, 324, 0, 0, 0, 2, [])), (324, (35, 342, 327, 0, 0, 0, [])), (327, (2, 328, 0, 0, 0, 0, [])), (328, (18, 331, 124, 1, 124, 0, [(0, 8)])), (331, (32, 336, 334, 0, 0, 0, [])), (334, (0, 335, 0, 0, 0, 0, [])), (335, (19, 0, 0, 1, 0, 0, [])), (336, (2, 337, 0, 0, 0, 0, [])), (337, (14, 340, 8, 41, 84, 0, [])), (340, (4, 342, 4, 0, 0, 0, [])), (342, (2, 343, 0, 0, 0, 0, [])), (343, (2, 344, 0, 0, 0, 0, [])), (344, (1, 345, 2, 0, 0, 0, [])), (345, (1, 346, 1, 0, 0, 0, [])), (346, (1, 347, 3, 0, 0, 0, [])), (347, (1, 349, 4, 0, 0, 0, [])), (349, (18, 352, 123, 5, 120, 0, [(0, 8)])), (352, (15, 355, 8, 41, 84, 0, [])), (355, (2, 356, 0, 0, 0, 0, [])), (356, (0, 358, 0, 0, 0, 59, [])), (358, (18, 361, 121, 2, 125, 0, [(0, 8)])), (361, (19, 0, 0, 1, 0, 0, []))]
def zu_X8_readStatement : List (Nat × List Nat) := [(0, [0]), (108, [0]), (172, [0, 1]), (206, [0, 1, 2]), (222, [0, 1, 2, 4]), (252, [0, 1, 2, 3, 4]), (282, [0, 1, 2, 3, 4]), (311, [0, 1, 2, 3, 4])]
def zc_X8_readTurn : List (Nat × zO) := [(0, (2, 1, 0, 0, 0, 0, [])), (1, (18, 4, 122, 1, 123, 0, [(0, 8)])), (4, (32, 9, 7, 0, 0, 0, [])), (7, (0, 8, 0, 0, 0, 0, [])), (8, (19, 0, 0, 1, 0, 0, [])), (9, (2, 10, 0, 0, 0, 0, [])), (10, (18, 13, 124, 1, 124, 0, [(0, 8)])), (13, (32, 18, 16, 0, 0, 0, [])), (16, (0, 17, 0, 0, 0, 0, [])), (17, (19, 0, 0, 1, 0, 0, [])), (18, (2, 19, 0, 0, 0, 0, [])), (19, (14, 22, 8, 41, 84, 0, [])), (22, (4, 23, 2, 0, 0, 0, [])), (23, (2, 24, 0, 0, 0, 0, [])), (24, (0, 26, 0, 0, 0, 91, [])), (26, (18, 29, 121, 2, 125, 0, [(0, 8)])), (29, (32, 32, 39, 0, 0, 0, [])), (32, (2, 33, 0, 0, 0, 0, [])), (33, (18, 36, 130, 1, 130, 0, [(0, 8)])), (36, (32, 41, 39, 0, 0, 0, [])), (39, (0, 40, 0, 0, 0, 0, [])), (40, (19, 0, 0, 1, 0, 0, [])), (41, (2, 42, 0, 0, 0, 0, [])), (42, (14, 45, 8, 41, 84, 0, [])), (45, (4, 46, 3, 0, 0, 0, [])), (46, (0, 47, 0, 0, 0, (-1), [])), (47, (4, 49, 4, 0, 0, 0, [])), (49, (1, 50, 1, 0, 0, 0, [])), (50, (32, 53, 77, 0, 0, 0, [])), (53, (2, 54, 0, 0, 0, 0, [])), (54, (0, 56, 0, 0, 0, 124, [])), (56, (18, 59, 121, 2, 125, 0, [(0, 8)])), (59, (32, 62, 69, 0, 0, 0, [])), (62, (2, 63, 0, 0, 0, 0, [])), (63, (18, 66, 130, 1, 130, 0, [(0, 8)])), (66, (32, 71, 69, 0, 0, 0, [])), (69, (0, 70, 0, 0, 0, 0, [])), (70, (19, 0, 0, 1, 0, 0, [])), (71, (2, 72, 0, 0, 0, 0, [])), (72, (14, 75, 8, 41, 84, 0, [])), (75, (4, 77, 4, 0, 0, 0, [])), (77, (2, 78, 0, 0, 0, 0, [])), (78, (0, 80, 0, 0, 0, 93, [])), (80, (18, 83, 121, 2, 125, 0, [(0, 8)])), (83, (32, 88, 86, 0, 0, 0, [])), (86, (0, 87, 0, 0, 0, 0, [])), (87, (19, 0, 0, 1, 0, 0, [])), (88, (2, 89, 0, 0, 0, 0, [])), (89, (21, 90, 0, 0, 0, 0, [])), (90, (14, 93, 8, 9, 76, 0, [])), (93, (0, 94, 0, 0, 0, 1, [])), (94, (7, 95, 0, 1, 0, 0, [])), (95, (15, 98, 8, 9, 76, 0, [])), (98, (2, 99, 0, 0, 0, 0, [])), (99, (2, 100, 0, 0, 0, 0, [])), (100, (1, 101, 1, 0, 0, 0, [])), (101, (32, 104, 109, 0, 0, 0, [])), (104, (0, 106, 0, 0, 0, 11, [])), (106, (12, 0, 111, 0, 0, 0, [])), (109, (0, 111, 0, 0, 0, 12, [])), (111, (1, 112, 2, 0, 0, 0, [])), (112, (1, 113, 3, 0, 0, 0, [])), (113, (1, 115, 4, 0, 0, 0, [])), (115, (18, 118, 123, 5, 120, 0, [(0, 8)])), (118, (15, 121, 8, 41, 84, 0, [])), (121, (0, 122, 0, 0, 0, 1, [])), (122, (19, 0, 0, 1, 0, 0, []))]
def zu_X8_readTurn : List (Nat × List Nat) := [(0, [0, 1])]
def zc_X8_program : List (Nat × zO) := [(0, (2, 1, 0, 0, 0, 0, [])), (1, (0, 2, 0, 0, 0, (-1), [])), (2, (15, 5, 8, 3, 75, 0, [])), (5, (2, 6, 0, 0, 0, 0, [])), (6, (30, 9, 117, 1, 131, 0, [(0, 8)])), (9, (2, 10, 0, 0, 0, 0, [])), (10, (0, 11, 0, 0, 0, 0, [])), (11, (15, 14, 8, 2, 68, 0, [])), (14, (2, 15, 0, 0, 0, 0, [])), (15, (0, 16, 0, 0, 0, 0, [])), (16, (15, 19, 8, 8, 74, 0, [])), (19, (2, 20, 0, 0, 0, 0, [])), (20, (0, 21, 0, 0, 0, 0, [])), (21, (15, 24, 8, 9, 76, 0, [])), (24, (2, 25, 0, 0, 0, 0, [])), (25, (0, 26, 0, 0, 0, 0, [])), (26, (15, 29, 8, 14, 87, 0, [])), (29, (2, 30, 0, 0, 0, 0, [])), (30, (14, 33, 8, 13, 78, 0, [])), (33, (0, 34, 0, 0, 0, 1, [])), (34, (2, 35, 0, 0, 0, 0, [])), (35, (14, 38, 8, 10, 77, 0, [])), (38, (7, 39, 0, 1, 0, 0, [])), (39, (0, 40, 0, 0, 0, 0, [])), (40, (17, 41, 0, 0, 0, 0, [])), (41, (2, 42, 0, 0, 0, 0, [])), (42, (18, 45, 130, 1, 130, 0, [(0, 8)])), (45, (32, 48, 71, 0, 0, 0, [])), (48, (2, 49, 0, 0, 0, 0, [])), (49, (14, 52, 8, 5, 70, 0, [])), (52, (2, 53, 0, 0, 0, 0, [])), (53, (14, 56, 8, 8, 74, 0, [])), (56, (16, 57, 0, 0, 0, 0, [])), (57, (32, 60, 67, 0, 0, 0, [])), (60, (2, 61, 0, 0, 0, 0, [])), (61, (18, 64, 118, 1, 118, 0, [(0, 8)])), (64, (32, 67, 71, 0, 0, 0, [])), (67, (0, 68, 0, 0, 0, 1, [])), (68, (12, 0, 72, 0, 0, 0, [])), (71, (0, 72, 0, 0, 0, 0, [])), (72, (4, 73, 1, 0, 0, 0, [])), (73, (1, 74, 1, 0, 0, 0, [])), (74, (32, 83, 77, 0, 0, 0, [])), (77, (2, 78, 0, 0, 0, 0, [])), (78, (0, 79, 0, 0, 0, 1, [])), (79, (18, 82, 108, 2, 132, 0, [(0, 8)])), (82, (19, 0, 0, 0, 0, 0, [])), (83, (2, 84, 0, 0, 0, 0, [])), (84, (0, 85, 0, 0, 0, 0, [])), (85, (15, 88, 8, 0, 67, 0, [])), (88, (2, 89, 0, 0, 0, 0, [])), (89, (14, 92, 8, 12, 88, 0, [])), (92, (0, 93, 0, 0, 0, 1, [])), (93, (2, 94, 0, 0, 0, 0, [])), (94, (14, 97, 8, 10, 77, 0, [])), (97, (7, 98, 0, 1, 0, 0, [])), (98, (2, 99, 0, 0, 0, 0, [])), (99, (14, 102, 8, 41, 84, 0, [])), (102, (17, 103, 0, 0, 0, 0, [])), (103, (2, 104, 0, 0, 0, 0, [])), (104, (0, 105, 0, 0, 0, 1, [])), (105, (2, 106, 0, 0, 0, 0, [])), (106, (14, 109, 8, 10, 77, 0, [])), (109, (7, 110, 0, 1, 0, 0, [])), (110, (15, 113, 8, 10, 77, 0, [])), (113, (2, 114, 0, 0, 0, 0, [])), (114, (0, 115, 0, 0, 0, 1, [])), (115, (31, 118, 8, 11, 89, 0, [])), (118, (2, 119, 0, 0, 0, 0, [])), (119, (14, 122, 8, 14, 87, 0, [])), (122, (19, 0, 0, 0, 0, 0, []))]
def zu_X8_program : List (Nat × List Nat) := [(0, [0])]
def zc_X8_fault : List (Nat × zO) := [(0, (2, 1, 0, 0, 0, 0, [])), (1, (0, 2, 0, 0, 0, 0, [])), (2, (15, 5, 8, 0, 67, 0, [])), (5, (2, 6, 0, 0, 0, 0, [])), (6, (14, 9, 8, 3, 75, 0, [])), (9, (19, 0, 0, 0, 0, 0, []))]
def zu_X8_fault : List (Nat × List Nat) := [(0, [0])]
def zc_X8_work : List (Nat × zO) := [(0, (2, 1, 0, 0, 0, 0, [])), (1, (14, 4, 8, 15, 79, 0, [])), (4, (1, 5, 1, 0, 0, 0, [])), (5, (16, 6, 0, 0, 0, 0, [])), (6, (13, 0, 10161, 1, 0, 0, [(42, 10139), (43, 10095), (45, 10117), (48, 10064), (110, 10083), (114, 10071)])), (64, (2, 65, 0, 0, 0, 0, [])), (65, (14, 68, 8, 16, 80, 0, [])), (68, (1, 69, 1, 0, 0, 0, [])), (69, (16, 70, 0, 0, 0, 0, [])), (70, (19, 0, 0, 0, 0, 0, [])), (71, (2, 72, 0, 0, 0, 0, [])), (72, (14, 75, 8, 30, 90, 0, [])), (75, (2, 76, 0, 0, 0, 0, [])), (76, (14, 79, 8, 16, 80, 0, [])), (79, (1, 80, 1, 0, 0, 0, [])), (80, (16, 81, 0, 0, 0, 0, [])), (81, (16, 82, 0, 0, 0, 0, [])), (82, (19, 0, 0, 0, 0, 0, [])), (83, (2, 84, 0, 0, 0, 0, [])), (84, (2, 85, 0, 0, 0, 0, [])), (85, (14, 88, 8, 16, 80, 0, [])), (88, (1, 89, 1, 0, 0, 0, [])), (89, (16, 90, 0, 0, 0, 0, [])), (90, (18, 93, 135, 2, 133, 0, [(0, 8)])), (93, (8, 94, 0, 0, 0, 0, [])), (94, (19, 0, 0, 0, 0, 0, [])), (95, (2, 96, 0, 0, 0, 0, [])), (96, (2, 97, 0, 0, 0, 0, [])), (97, (14, 100, 8, 16, 80, 0, [])), (100, (1, 101, 1, 0, 0, 0, [])), (101, (16, 102, 0, 0, 0, 0, [])), (102, (18, 105, 135, 2, 133, 0, [(0, 8)])), (105, (2, 106, 0, 0, 0, 0, [])), (106, (2, 107, 0, 0, 0, 0, [])), (107, (14, 110, 8, 17, 81, 0, [])), (110, (1, 111, 1, 0, 0, 0, [])), (111, (16, 112, 0, 0, 0, 0, [])), (112, (18, 115, 135, 2, 133, 0, [(0, 8)])), (115, (7, 116, 0, 0, 0, 0, [])), (116, (19, 0, 0, 0, 0, 0, [])), (117, (2, 118, 0, 0, 0, 0, [])), (118, (2, 119, 0, 0, 0, 0, [])), (119, (14, 122, 8, 16, 80, 0, [])), (122, (1, 123, 1, 0, 0, 0, [])), (123, (16, 124, 0, 0, 0, 0, [])), (124, (18, 127, 135, 2, 133, 0, [(0, 8)])), (127, (2, 128, 0, 0, 0, 0, [])), (128, (2, 129, 0, 0, 0, 0, [])), (129, (14, 132, 8, 17, 81, 0, [])), (132, (1, 133, 1, 0, 0, 0, [])), (133, (16, 134, 0, 0, 0, 0, [])), (134, (18, 137, 135, 2, 133, 0, [(0, 8)])), (137, (7, 138, 0, 1, 0, 0, [])), (138, (19, 0, 0, 0, 0, 0, [])), (139, (2, 140, 0, 0, 0, 0, [])), (140, (2, 141, 0, 0, 0, 0, [])), (141, (14, 144, 8, 16, 80, 0, [])), (144, (1, 145, 1, 0, 0, 0, [])), (145, (16, 146, 0, 0, 0, 0, [])), (146, (18, 149, 135, 2, 133, 0, [(0, 8)])), (149, (2, 150, 0, 0, 0, 0, [])), (150, (2, 151, 0, 0, 0, 0, [])), (151, (14, 154, 8, 17, 81, 0, [])), (154, (1, 155, 1, 0, 0, 0, [])), (155, (16, 156, 0, 0, 0, 0, [])), (156, (18, 159, 135, 2, 133, 0, [(0, 8)])), (159, (7, 160, 0, 2, 0, 0, [])), (160, (19, 0, 0, 0, 0, 0, [])), (161, (2, 162, 0, 0, 0, 0, [])), (162, (2, 163, 0, 0, 0, 0, [])), (163, (14, 166, 8, 16, 80, 0, [])), (166, (1, 167, 1, 0, 0, 0, [])), (167, (16, 168, 0, 0, 0, 0, [])), (168, (18, 171, 135, 2, 133, 0, [(0, 8)])), (171, (2, 172, 0, 0, 0, 0, [])), (172, (2, 173, 0, 0, 0, 0, [])), (173, (14, 176, 8, 17, 81, 0, [])), (176, (1, 177, 1, 0, 0, 0, [])), (177, (16, 178, 0, 0, 0, 0, [])), (178, (18, 181, 135, 2, 133, 0, [(0, 8)])), (181, (36, 188, 184, 0, 0, 0, [])), (184, (0, 185, 0, 0, 0, 1, [])), (185, (12, 0, 189, 0, 0, 0, [])), (188, (0, 189, 0, 0, 0, 0, [])), (189, (19, 0, 0, 0, 0, 0, []))]
def zu_X8_work : List (Nat × List Nat) := [(0, [0, 1]), (64, [0, 1]), (71, [0, 1]), (83, [0, 1]), (95, [0, 1]), (117, [0, 1]), (139, [0, 1]), (161, [0, 1])]
def zc_X8_isCommand : List (Nat × zO) := [(0, (1, 1, 1, 0, 0, 0, [])), (1, (2, 2, 0, 0, 0, 0, [])), (2, (14, 5, 8, 20, 91, 0, [])), (5, (36, 32, 8, 0, 0, 0, [])), (8, (2, 9, 0, 0, 0, 0, [])), (9, (14, 12, 8, 21, 92, 0, [])), (12, (1, 13, 1, 0, 0, 0, [])), (13, (16, 14, 0, 0, 0, 0, [])), (14, (0, 15, 0, 0, 0, 1, [])), (15, (36, 18, 32, 0, 0, 0, [])), (18, (2, 19, 0, 0, 0, 0, [])), (19, (14, 22, 8, 21, 92, 0, [])), (22, (1, 23, 1, 0, 0, 0, [])), (23, (16, 24, 0, 0, 0, 0, [])), (24, (0, 25, 0, 0, 0, 4, [])), (25, (37, 28, 32, 0, 0, 0, [])), (28, (0, 29, 0, 0, 0, 1, [])), (29, (12, 0, 33, 0, 0, 0, [])), (32, (0, 33, 0, 0, 0, 0, [])), (33, (19, 0, 0, 1, 0, 0, []))]
def zu_X8_isCommand : List (Nat × List Nat) := [(0, [0, 1])]
def zc_X8_begins : List (Nat × zO) := [(0, (2, 1, 0, 0, 0, 0, [])), (1, (14, 4, 8, 20, 91, 0, [])), (4, (0, 7, 0, 0, 0, 200, [])), (7, (35, 16, 10, 0, 0, 0, [])), (10, (2, 11, 0, 0, 0, 0, [])), (11, (0, 12, 0, 0, 0, 5, [])), (12, (15, 15, 8, 31, 93, 0, [])), (15, (20, 0, 0, 0, 0, 0, [])), (16, (2, 17, 0, 0, 0, 0, [])), (17, (0, 18, 0, 0, 0, 1, [])), (18, (31, 21, 8, 34, 94, 0, [])), (21, (2, 22, 0, 0, 0, 0, [])), (22, (2, 23, 0, 0, 0, 0, [])), (23, (14, 26, 8, 20, 91, 0, [])), (26, (15, 29, 8, 32, 95, 0, [])), (29, (2, 30, 0, 0, 0, 0, [])), (30, (2, 31, 0, 0, 0, 0, [])), (31, (14, 34, 8, 20, 91, 0, [])), (34, (15, 37, 8, 35, 96, 0, [])), (37, (2, 38, 0, 0, 0, 0, [])), (38, (0, 39, 0, 0, 0, 0, [])), (39, (0, 40, 0, 0, 0, 0, [])), (40, (2, 41, 0, 0, 0, 0, [])), (41, (14, 44, 8, 39, 97, 0, [])), (44, (30, 47, 138, 4, 134, 0, [(0, 8)])), (47, (20, 0, 0, 0, 0, 0, []))]
def zu_X8_begins : List (Nat × List Nat) := [(0, [0])]
def zc_X8_append : List (Nat × zO) := [(0, (2, 1, 0, 0, 0, 0, [])), (1, (14, 4, 8, 21, 92, 0, [])), (4, (2, 5, 0, 0, 0, 0, [])), (5, (14, 8, 8, 35, 96, 0, [])), (8, (1, 9, 1, 0, 0, 0, [])), (9, (17, 10, 0, 0, 0, 0, [])), (10, (2, 11, 0, 0, 0, 0, [])), (11, (14, 14, 8, 22, 98, 0, [])), (14, (2, 15, 0, 0, 0, 0, [])), (15, (14, 18, 8, 35, 96, 0, [])), (18, (1, 19, 2, 0, 0, 0, [])), (19, (17, 20, 0, 0, 0, 0, [])), (20, (2, 21, 0, 0, 0, 0, [])), (21, (14, 24, 8, 23, 99, 0, [])), (24, (2, 25, 0, 0, 0, 0, [])), (25, (14, 28, 8, 35, 96, 0, [])), (28, (1, 29, 3, 0, 0, 0, [])), (29, (17, 30, 0, 0, 0, 0, [])), (30, (2, 31, 0, 0, 0, 0, [])), (31, (21, 32, 0, 0, 0, 0, [])), (32, (14, 35, 8, 35, 96, 0, [])), (35, (0, 36, 0, 0, 0, 1, [])), (36, (7, 37, 0, 0, 0, 0, [])), (37, (15, 40, 8, 35, 96, 0, [])), (40, (2, 41, 0, 0, 0, 0, [])), (41, (2, 42, 0, 0, 0, 0, [])), (42, (14, 45, 8, 35, 96, 0, [])), (45, (15, 48, 8, 33, 100, 0, [])), (48, (20, 0, 0, 0, 0, 0, []))]
def zu_X8_append : List (Nat × List Nat) := [(0, [0, 1, 2, 3])]
def zc_X8_goOn : List (Nat × zO) := [(0, (2, 1, 0, 0, 0, 0, [])), (1, (14, 4, 8, 34, 94, 0, [])), (4, (32, 7, 14, 0, 0, 0, [])), (7, (2, 8, 0, 0, 0, 0, [])), (8, (0, 10, 0, 0, 0, 9, [])), (10, (15, 13, 8, 31, 93, 0, [])), (13, (20, 0, 0, 0, 0, 0, [])), (14, (2, 15, 0, 0, 0, 0, [])), (15, (2, 16, 0, 0, 0, 0, [])), (16, (14, 19, 8, 33, 100, 0, [])), (19, (18, 22, 136, 2, 135, 0, [(0, 8)])), (22, (32, 25, 10039, 0, 0, 0, [])), (25, (2, 26, 0, 0, 0, 0, [])), (26, (0, 27, 0, 0, 0, 2, [])), (27, (15, 30, 8, 31, 93, 0, [])), (30, (2, 31, 0, 0, 0, 0, [])), (31, (2, 32, 0, 0, 0, 0, [])), (32, (14, 35, 8, 33, 100, 0, [])), (35, (15, 38, 8, 40, 101, 0, [])), (38, (20, 0, 0, 0, 0, 0, [])), (39, (2, 40, 0, 0, 0, 0, [])), (40, (14, 43, 8, 33, 100, 0, [])), (43, (2, 44, 0, 0, 0, 0, [])), (44, (14, 47, 8, 20, 91, 0, [])), (47, (36, 75, 50, 0, 0, 0, [])), (50, (2, 51, 0, 0, 0, 0, [])), (51, (14, 54, 8, 21, 92, 0, [])), (54, (2, 55, 0, 0, 0, 0, [])), (55, (14, 58, 8, 33, 100, 0, [])), (58, (16, 59, 0, 0, 0, 0, [])), (59, (32, 62, 75, 0, 0, 0, [])), (62, (2, 63, 0, 0, 0, 0, [])), (63, (21, 64, 0, 0, 0, 0, [])), (64, (14, 67, 8, 33, 100, 0, [])), (67, (0, 68, 0, 0, 0, 1, [])), (68, (7, 69, 0, 0, 0, 0, [])), (69, (15, 72, 8, 33, 100, 0, [])), (72, (12, 0, 10039, 0, 0, 0, [])), (75, (2, 76, 0, 0, 0, 0, [])), (76, (0, 77, 0, 0, 0, 0, [])), (77, (15, 80, 8, 36, 102, 0, [])), (80, (2, 81, 0, 0, 0, 0, [])), (81, (14, 84, 8, 33, 100, 0, [])), (84, (2, 85, 0, 0, 0, 0, [])), (85, (14, 88, 8, 20, 91, 0, [])), (88, (35, 111, 91, 0, 0, 0, [])), (91, (2, 92, 0, 0, 0, 0, [])), (92, (14, 95, 8, 38, 103, 0, [])), (95, (32, 98, 106, 0, 0, 0, [])), (98, (2, 99, 0, 0, 0, 0, [])), (99, (0, 100, 0, 0, 0, 4, [])), (100, (15, 103, 8, 31, 93, 0, [])), (103, (12, 0, 110, 0, 0, 0, [])), (106, (2, 107, 0, 0, 0, 0, [])), (107, (30, 110, 137, 1, 136, 0, [(0, 8)])), (110, (20, 0, 0, 0, 0, 0, [])), (111, (2, 112, 0, 0, 0, 0, [])), (112, (2, 113, 0, 0, 0, 0, [])), (113, (14, 116, 8, 33, 100, 0, [])), (116, (15, 119, 8, 32, 95, 0, [])), (119, (2, 120, 0, 0, 0, 0, [])), (120, (21, 121, 0, 0, 0, 0, [])), (121, (14, 124, 8, 33, 100, 0, [])), (124, (0, 125, 0, 0, 0, 1, [])), (125, (7, 126, 0, 0, 0, 0, [])), (126, (15, 129, 8, 33, 100, 0, [])), (129, (20, 0, 0, 0, 0, 0, []))]
def zu_X8_goOn : List (Nat × List Nat) := [(0, [0]), (39, [0])]
def zc_X8_step : List (Nat × zO) := [(0, (2, 1, 0, 0, 0, 0, [])), (1, (21, 2, 0, 0, 0, 0, [])), (2, (14, 5, 8, 36, 102, 0, [])), (5, (0, 6, 0, 0, 0, 1, [])), (6, (7, 7, 0, 0, 0, 0, [])), (7, (15, 10, 8, 36, 102, 0, [])), (10, (2, 11, 0, 0, 0, 0, [])), (11, (14, 14, 8, 36, 102, 0, [])), (14, (0, 17, 0, 0, 0, 1000, [])), (17, (37, 25, 20, 0, 0, 0, [])), (20, (2, 21, 0, 0, 0, 0, [])), (21, (0, 22, 0, 0, 0, 3, [])), (22, (15, 25, 8, 31, 93, 0, [])), (25, (2, 26, 0, 0, 0, 0, [])), (26, (14, 29, 8, 31, 93, 0, [])), (29, (32, 36, 32, 0, 0, 0, [])), (32, (0, 33, 0, 0, 0, 1, [])), (33, (12, 0, 37, 0, 0, 0, [])), (36, (0, 37, 0, 0, 0, 0, [])), (37, (19, 0, 0, 1, 0, 0, []))]
def zu_X8_step : List (Nat × List Nat) := [(0, [0])]
def zc_X8_command : List (Nat × zO) := [(0, (2, 1, 0, 0, 0, 0, [])), (1, (14, 4, 8, 34, 94, 0, [])), (4, (32, 7, 38, 0, 0, 0, [])), (7, (2, 8, 0, 0, 0, 0, [])), (8, (14, 11, 8, 35, 96, 0, [])), (11, (0, 14, 0, 0, 0, 200, [])), (14, (35, 24, 17, 0, 0, 0, [])), (17, (2, 18, 0, 0, 0, 0, [])), (18, (0, 19, 0, 0, 0, 5, [])), (19, (15, 22, 8, 31, 93, 0, [])), (22, (0, 23, 0, 0, 0, (-1), [])), (23, (19, 0, 0, 0, 0, 0, [])), (24, (2, 25, 0, 0, 0, 0, [])), (25, (1, 26, 1, 0, 0, 0, [])), (26, (1, 27, 2, 0, 0, 0, [])), (27, (1, 28, 3, 0, 0, 0, [])), (28, (30, 31, 138, 4, 134, 0, [(0, 8)])), (31, (2, 32, 0, 0, 0, 0, [])), (32, (14, 35, 8, 35, 96, 0, [])), (35, (0, 36, 0, 0, 0, 1, [])), (36, (7, 37, 0, 1, 0, 0, [])), (37, (19, 0, 0, 0, 0, 0, [])), (38, (2, 39, 0, 0, 0, 0, [])), (39, (2, 40, 0, 0, 0, 0, [])), (40, (14, 43, 8, 33, 100, 0, [])), (43, (18, 46, 136, 2, 135, 0, [(0, 8)])), (46, (32, 49, 88, 0, 0, 0, [])), (49, (2, 50, 0, 0, 0, 0, [])), (50, (14, 53, 8, 21, 92, 0, [])), (53, (2, 54, 0, 0, 0, 0, [])), (54, (14, 57, 8, 33, 100, 0, [])), (57, (16, 58, 0, 0, 0, 0, [])), (58, (1, 59, 1, 0, 0, 0, [])), (59, (35, 88, 62, 0, 0, 0, [])), (62, (2, 63, 0, 0, 0, 0, [])), (63, (14, 66, 8, 22, 98, 0, [])), (66, (2, 67, 0, 0, 0, 0, [])), (67, (14, 70, 8, 33, 100, 0, [])), (70, (16, 71, 0, 0, 0, 0, [])), (71, (1, 72, 2, 0, 0, 0, [])), (72, (35, 88, 75, 0, 0, 0, [])), (75, (2, 76, 0, 0, 0, 0, [])), (76, (14, 79, 8, 23, 99, 0, [])), (79, (2, 80, 0, 0, 0, 0, [])), (80, (14, 83, 8, 33, 100, 0, [])), (83, (16, 84, 0, 0, 0, 0, [])), (84, (1, 85, 3, 0, 0, 0, [])), (85, (35, 88, 103, 0, 0, 0, [])), (88, (2, 89, 0, 0, 0, 0, [])), (89, (0, 90, 0, 0, 0, 2, [])), (90, (15, 93, 8, 31, 93, 0, [])), (93, (2, 94, 0, 0, 0, 0, [])), (94, (2, 95, 0, 0, 0, 0, [])), (95, (14, 98, 8, 33, 100, 0, [])), (98, (15, 101, 8, 40, 101, 0, [])), (101, (0, 102, 0, 0, 0, (-1), [])), (102, (19, 0, 0, 0, 0, 0, [])), (103, (2, 104, 0, 0, 0, 0, [])), (104, (21, 105, 0, 0, 0, 0, [])), (105, (14, 108, 8, 33, 100, 0, [])), (108, (0, 109, 0, 0, 0, 1, [])), (109, (7, 110, 0, 0, 0, 0, [])), (110, (15, 113, 8, 33, 100, 0, [])), (113, (2, 114, 0, 0, 0, 0, [])), (114, (14, 117, 8, 33, 100, 0, [])), (117, (0, 118, 0, 0, 0, 1, [])), (118, (7, 119, 0, 1, 0, 0, [])), (119, (19, 0, 0, 0, 0, 0, []))]
def zu_X8_command : List (Nat × List Nat) := [(0, [0, 1, 2, 3])]
def zc_X8_isDone : List (Nat × zO) := [(0, (2, 1, 0, 0, 0, 0, [])), (1, (0, 3, 0, 0, 0, (-2), [])), (3, (15, 6, 8, 44, 104, 0, [])), (6, (1, 7, 1, 0, 0, 0, [])), (7, (33, 10, 38, 0, 0, 0, [])), (10, (1, 11, 1, 0, 0, 0, [])), (11, (2, 12, 0, 0, 0, 0, [])), (12, (14, 15, 8, 33, 100, 0, [])), (15, (36, 38, 18, 0, 0, 0, [])), (18, (2, 19, 0, 0, 0, 0, [])), (19, (14, 22, 8, 21, 92, 0, [])), (22, (1, 23, 1, 0, 0, 0, [])), (23, (16, 24, 0, 0, 0, 0, [])), (24, (0, 25, 0, 0, 0, 1, [])), (25, (35, 28, 40, 0, 0, 0, [])), (28, (2, 29, 0, 0, 0, 0, [])), (29, (14, 32, 8, 21, 92, 0, [])), (32, (1, 33, 1, 0, 0, 0, [])), (33, (16, 34, 0, 0, 0, 0, [])), (34, (0, 35, 0, 0, 0, 2, [])), (35, (35, 38, 40, 0, 0, 0, [])), (38, (0, 39, 0, 0, 0, 1, [])), (39, (19, 0, 0, 1, 0, 0, [])), (40, (1, 41, 1, 0, 0, 0, [])), (41, (0, 42, 0, 0, 0, 1, [])), (42, (7, 43, 0, 0, 0, 0, [])), (43, (4, 10044, 2, 0, 0, 0, [])), (44, (1, 45, 2, 0, 0, 0, [])), (45, (2, 46, 0, 0, 0, 0, [])), (46, (14, 49, 8, 32, 95, 0, [])), (49, (36, 133, 52, 0, 0, 0, [])), (52, (2, 53, 0, 0, 0, 0, [])), (53, (14, 56, 8, 21, 92, 0, [])), (56, (1, 57, 2, 0, 0, 0, [])), (57, (16, 58, 0, 0, 0, 0, [])), (58, (0, 59, 0, 0, 0, 5, [])), (59, (36, 62, 127, 0, 0, 0, [])), (62, (2, 63, 0, 0, 0, 0, [])), (63, (14, 66, 8, 21, 92, 0, [])), (66, (1, 67, 2, 0, 0, 0, [])), (67, (16, 68, 0, 0, 0, 0, [])), (68, (0, 70, 0, 0, 0, 7, [])), (70, (37, 73, 127, 0, 0, 0, [])), (73, (2, 74, 0, 0, 0, 0, [])), (74, (14, 77, 8, 22, 98, 0, [])), (77, (1, 78, 2, 0, 0, 0, [])), (78, (16, 79, 0, 0, 0, 0, [])), (79, (1, 80, 1, 0, 0, 0, [])), (80, (35, 83, 86, 0, 0, 0, [])), (83, (12, 0, 127, 0, 0, 0, [])), (86, (2, 87, 0, 0, 0, 0, [])), (87, (2, 88, 0, 0, 0, 0, [])), (88, (14, 91, 8, 21, 92, 0, [])), (91, (1, 92, 2, 0, 0, 0, [])), (92, (16, 93, 0, 0, 0, 0, [])), (93, (0, 94, 0, 0, 0, 5, [])), (94, (35, 106, 97, 0, 0, 0, [])), (97, (2, 98, 0, 0, 0, 0, [])), (98, (14, 101, 8, 23, 99, 0, [])), (101, (1, 102, 2, 0, 0, 0, [])), (102, (16, 103, 0, 0, 0, 0, [])), (103, (12, 0, 122, 0, 0, 0, [])), (106, (2, 107, 0, 0, 0, 0, [])), (107, (14, 110, 8, 21, 92, 0, [])), (110, (1, 111, 2, 0, 0, 0, [])), (111, (16, 112, 0, 0, 0, 0, [])), (112, (0, 114, 0, 0, 0, 6, [])), (114, (35, 121, 117, 0, 0, 0, [])), (117, (0, 118, 0, 0, 0, (-1), [])), (118, (12, 0, 122, 0, 0, 0, [])), (121, (0, 122, 0, 0, 0, 0, [])), (122, (15, 125, 8, 44, 104, 0, [])), (125, (0, 126, 0, 0, 0, 1, [])), (126, (19, 0, 0, 1, 0, 0, [])), (127, (6, 130, 2, 0, 0, 1, [])), (130, (12, 0, 10044, 0, 0, 0, [])), (133, (0, 134, 0, 0, 0, 0, [])), (134, (19, 0, 0, 1, 0, 0, []))]
def zu_X8_isDone : List (Nat × List Nat) := [(0, [0, 1]), (44, [0, 1, 2])]
def zc_X8_hasSignal : List (Nat × zO) := [(0, (0, 1, 0, 0, 0, 0, [])), (1, (4, 2, 1, 0, 0, 0, [])), (2, (0, 3, 0, 0, 0, 0, [])), (3, (4, 10004, 2, 0, 0, 0, [])), (4, (1, 5, 2, 0, 0, 0, [])), (5, (2, 6, 0, 0, 0, 0, [])), (6, (14, 9, 8, 32, 95, 0, [])), (9, (36, 55, 12, 0, 0, 0, [])), (12, (2, 13, 0, 0, 0, 0, [])), (13, (14, 16, 8, 21, 92, 0, [])), (16, (1, 17, 2, 0, 0, 0, [])), (17, (16, 18, 0, 0, 0, 0, [])), (18, (0, 20, 0, 0, 0, 8, [])), (20, (35, 23, 26, 0, 0, 0, [])), (23, (12, 0, 49, 0, 0, 0, [])), (26, (1, 27, 1, 0, 0, 0, [])), (27, (2, 28, 0, 0, 0, 0, [])), (28, (14, 31, 8, 37, 105, 0, [])), (31, (35, 46, 34, 0, 0, 0, [])), (34, (2, 35, 0, 0, 0, 0, [])), (35, (2, 36, 0, 0, 0, 0, [])), (36, (14, 39, 8, 23, 99, 0, [])), (39, (1, 40, 2, 0, 0, 0, [])), (40, (16, 41, 0, 0, 0, 0, [])), (41, (15, 44, 8, 44, 104, 0, [])), (44, (0, 45, 0, 0, 0, 1, [])), (45, (19, 0, 0, 1, 0, 0, [])), (46, (6, 49, 1, 0, 0, 1, [])), (49, (6, 52, 2, 0, 0, 1, [])), (52, (12, 0, 10004, 0, 0, 0, [])), (55, (0, 56, 0, 0, 0, 0, [])), (56, (19, 0, 0, 1, 0, 0, []))]
def zu_X8_hasSignal : List (Nat × List Nat) := [(0, [0]), (4, [0, 1, 2])]
def zc_X8_isReady : List (Nat × zO) := [(0, (2, 1, 0, 0, 0, 0, [])), (1, (14, 4, 8, 15, 79, 0, [])), (4, (1, 5, 1, 0, 0, 0, [])), (5, (16, 6, 0, 0, 0, 0, [])), (6, (0, 8, 0, 0, 0, 9, [])), (8, (35, 10027, 10011, 0, 0, 0, [])), (11, (2, 12, 0, 0, 0, 0, [])), (12, (2, 13, 0, 0, 0, 0, [])), (13, (14, 16, 8, 30, 90, 0, [])), (16, (2, 17, 0, 0, 0, 0, [])), (17, (14, 20, 8, 17, 81, 0, [])), (20, (1, 21, 1, 0, 0, 0, [])), (21, (16, 22, 0, 0, 0, 0, [])), (22, (16, 23, 0, 0, 0, 0, [])), (23, (18, 26, 142, 2, 137, 0, [(0, 8)])), (26, (19, 0, 0, 1, 0, 0, [])), (27, (2, 28, 0, 0, 0, 0, [])), (28, (14, 31, 8, 15, 79, 0, [])), (31, (1, 32, 1, 0, 0, 0, [])), (32, (16, 33, 0, 0, 0, 0, [])), (33, (0, 34, 0, 0, 0, 5, [])), (34, (35, 10042, 37, 0, 0, 0, [])), (37, (2, 38, 0, 0, 0, 0, [])), (38, (18, 41, 143, 1, 138, 0, [(0, 8)])), (41, (19, 0, 0, 1, 0, 0, [])), (42, (2, 43, 0, 0, 0, 0, [])), (43, (2, 44, 0, 0, 0, 0, [])), (44, (14, 47, 8, 30, 90, 0, [])), (47, (2, 48, 0, 0, 0, 0, [])), (48, (14, 51, 8, 17, 81, 0, [])), (51, (1, 52, 1, 0, 0, 0, [])), (52, (16, 53, 0, 0, 0, 0, [])), (53, (16, 54, 0, 0, 0, 0, [])), (54, (18, 57, 142, 2, 137, 0, [(0, 8)])), (57, (32, 60, 10067, 0, 0, 0, [])), (60, (2, 61, 0, 0, 0, 0, [])), (61, (0, 62, 0, 0, 0, 1, [])), (62, (15, 65, 8, 44, 104, 0, [])), (65, (0, 66, 0, 0, 0, 1, [])), (66, (19, 0, 0, 1, 0, 0, [])), (67, (2, 68, 0, 0, 0, 0, [])), (68, (2, 69, 0, 0, 0, 0, [])), (69, (14, 72, 8, 30, 90, 0, [])), (72, (2, 73, 0, 0, 0, 0, [])), (73, (14, 76, 8, 18, 82, 0, [])), (76, (1, 77, 1, 0, 0, 0, [])), (77, (16, 78, 0, 0, 0, 0, [])), (78, (16, 79, 0, 0, 0, 0, [])), (79, (18, 82, 142, 2, 137, 0, [(0, 8)])), (82, (4, 83, 2, 0, 0, 0, [])), (83, (2, 84, 0, 0, 0, 0, [])), (84, (0, 85, 0, 0, 0, 2, [])), (85, (15, 88, 8, 44, 104, 0, [])), (88, (1, 89, 2, 0, 0, 0, [])), (89, (19, 0, 0, 1, 0, 0, []))]
def zu_X8_isReady : List (Nat × List Nat) := [(0, [0, 1]), (11, [0, 1]), (27, [0, 1]), (42, [0, 1]), (67, [0, 1])]
def zc_X8_list : List (Nat × zO) := [(0, (1, 1, 1, 0, 0, 0, [])), (1, (4, 10002, 2, 0, 0, 0, [])), (2, (1, 3, 2, 0, 0, 0, [])), (3, (0, 4, 0, 0, 0, (-1), [])), (4, (35, 7, 55, 0, 0, 0, [])), (7, (2, 8, 0, 0, 0, 0, [])), (8, (14, 11, 8, 31, 93, 0, [])), (11, (32, 55, 14, 0, 0, 0, [])), (14, (2, 15, 0, 0, 0, 0, [])), (15, (14, 18, 8, 15, 79, 0, [])), (18, (1, 19, 2, 0, 0, 0, [])), (19, (16, 20, 0, 0, 0, 0, [])), (20, (0, 22, 0, 0, 0, 12, [])), (22, (35, 33, 25, 0, 0, 0, [])), (25, (2, 26, 0, 0, 0, 0, [])), (26, (1, 27, 2, 0, 0, 0, [])), (27, (30, 30, 146, 2, 139, 0, [(0, 8)])), (30, (12, 0, 45, 0, 0, 0, [])), (33, (2, 34, 0, 0, 0, 0, [])), (34, (18, 37, 140, 1, 140, 0, [(0, 8)])), (37, (32, 40, 45, 0, 0, 0, [])), (40, (2, 41, 0, 0, 0, 0, [])), (41, (1, 42, 2, 0, 0, 0, [])), (42, (30, 45, 147, 2, 141, 0, [(0, 8)])), (45, (2, 46, 0, 0, 0, 0, [])), (46, (14, 49, 8, 19, 83, 0, [])), (49, (1, 50, 2, 0, 0, 0, [])), (50, (16, 51, 0, 0, 0, 0, [])), (51, (4, 52, 2, 0, 0, 0, [])), (52, (12, 0, 10002, 0, 0, 0, [])), (55, (20, 0, 0, 0, 0, 0, []))]
def zu_X8_list : List (Nat × List Nat) := [(0, [0, 1]), (2, [0, 2])]
def zc_X8_turn : List (Nat × zO) := [(0, (2, 1, 0, 0, 0, 0, [])), (1, (14, 4, 8, 31, 93, 0, [])), (4, (32, 41, 7, 0, 0, 0, [])), (7, (2, 8, 0, 0, 0, 0, [])), (8, (18, 11, 140, 1, 140, 0, [(0, 8)])), (11, (32, 14, 41, 0, 0, 0, [])), (14, (2, 15, 0, 0, 0, 0, [])), (15, (2, 16, 0, 0, 0, 0, [])), (16, (14, 19, 8, 16, 80, 0, [])), (19, (1, 20, 1, 0, 0, 0, [])), (20, (16, 21, 0, 0, 0, 0, [])), (21, (18, 24, 135, 2, 133, 0, [(0, 8)])), (24, (32, 28, 27, 0, 0, 0, [])), (27, (20, 0, 0, 0, 0, 0, [])), (28, (2, 29, 0, 0, 0, 0, [])), (29, (2, 30, 0, 0, 0, 0, [])), (30, (14, 33, 8, 17, 81, 0, [])), (33, (1, 34, 1, 0, 0, 0, [])), (34, (16, 35, 0, 0, 0, 0, [])), (35, (30, 38, 145, 2, 142, 0, [(0, 8)])), (38, (12, 0, 10000, 0, 0, 0, [])), (41, (20, 0, 0, 0, 0, 0, []))]
def zu_X8_turn : List (Nat × List Nat) := [(0, [0, 1])]
def zc_X8_statement : List (Nat × zO) := [(0, (2, 1, 0, 0, 0, 0, [])), (1, (14, 4, 8, 15, 79, 0, [])), (4, (1, 5, 1, 0, 0, 0, [])), (5, (16, 6, 0, 0, 0, 0, [])), (6, (13, 0, 10250, 0, 0, 0, [(1, 10134), (2, 10134), (3, 10250), (4, 10194), (5, 10250), (6, 10229), (7, 10188), (8, 10119), (9, 10250), (10, 10064), (11, 10086)])), (64, (2, 65, 0, 0, 0, 0, [])), (65, (14, 68, 8, 30, 90, 0, [])), (68, (2, 69, 0, 0, 0, 0, [])), (69, (14, 72, 8, 16, 80, 0, [])), (72, (1, 73, 1, 0, 0, 0, [])), (73, (16, 74, 0, 0, 0, 0, [])), (74, (2, 75, 0, 0, 0, 0, [])), (75, (2, 76, 0, 0, 0, 0, [])), (76, (14, 79, 8, 18, 82, 0, [])), (79, (1, 80, 1, 0, 0, 0, [])), (80, (16, 81, 0, 0, 0, 0, [])), (81, (18, 84, 135, 2, 133, 0, [(0, 8)])), (84, (17, 85, 0, 0, 0, 0, [])), (85, (20, 0, 0, 0, 0, 0, [])), (86, (2, 87, 0, 0, 0, 0, [])), (87, (2, 88, 0, 0, 0, 0, [])), (88, (2, 89, 0, 0, 0, 0, [])), (89, (14, 92, 8, 16, 80, 0, [])), (92, (1, 93, 1, 0, 0, 0, [])), (93, (16, 94, 0, 0, 0, 0, [])), (94, (18, 97, 135, 2, 133, 0, [(0, 8)])), (97, (32, 100, 109, 0, 0, 0, [])), (100, (2, 101, 0, 0, 0, 0, [])), (101, (14, 104, 8, 17, 81, 0, [])), (104, (1, 105, 1, 0, 0, 0, [])), (105, (16, 106, 0, 0, 0, 0, [])), (106, (12, 0, 115, 0, 0, 0, [])), (109, (2, 110, 0, 0, 0, 0, [])), (110, (14, 113, 8, 18, 82, 0, [])), (113, (1, 114, 1, 0, 0, 0, [])), (114, (16, 115, 0, 0, 0, 0, [])), (115, (30, 118, 145, 2, 142, 0, [(0, 8)])), (118, (20, 0, 0, 0, 0, 0, [])), (119, (2, 120, 0, 0, 0, 0, [])), (120, (2, 121, 0, 0, 0, 0, [])), (121, (2, 122, 0, 0, 0, 0, [])), (122, (14, 125, 8, 16, 80, 0, [])), (125, (1, 126, 1, 0, 0, 0, [])), (126, (16, 127, 0, 0, 0, 0, [])), (127, (18, 130, 135, 2, 133, 0, [(0, 8)])), (130, (30, 133, 150, 2, 143, 0, [(0, 8)])), (133, (20, 0, 0, 0, 0, 0, [])), (134, (2, 135, 0, 0, 0, 0, [])), (135, (2, 136, 0, 0, 0, 0, [])), (136, (14, 139, 8, 15, 79, 0, [])), (139, (1, 140, 1, 0, 0, 0, [])), (140, (16, 141, 0, 0, 0, 0, [])), (141, (0, 142, 0, 0, 0, 1, [])), (142, (35, 149, 145, 0, 0, 0, [])), (145, (0, 146, 0, 0, 0, 1, [])), (146, (12, 0, 150, 0, 0, 0, [])), (149, (0, 150, 0, 0, 0, 2, [])), (150, (2, 151, 0, 0, 0, 0, [])), (151, (14, 154, 8, 17, 81, 0, [])), (154, (1, 155, 1, 0, 0, 0, [])), (155, (16, 156, 0, 0, 0, 0, [])), (156, (2, 157, 0, 0, 0, 0, [])), (157, (2, 158, 0, 0, 0, 0, [])), (158, (14, 161, 8, 18, 82, 0, [])), (161, (1, 162, 1, 0, 0, 0, [])), (162, (16, 163, 0, 0, 0, 0, [])), (163, (18, 166, 135, 2, 133, 0, [(0, 8)])), (166, (18, 169, 141, 4, 144, 0, [(0, 8)])), (169, (4, 170, 2, 0, 0, 0, [])), (170, (1, 171, 2, 0, 0, 0, [])), (171, (0, 172, 0, 0, 0, (-1), [])), (172, (35, 175, 187, 0, 0, 0, [])), (175, (2, 176, 0, 0, 0, 0, [])), (176, (14, 179, 8, 30, 90, 0, [])), (179, (2, 180, 0, 0, 0, 0, [])), (180, (14, 183, 8, 16, 80, 0, [])), (183, (1, 184, 1, 0, 0, 0, [])), (184, (16, 185, 0, 0, 0, 0, [])), (185, (1, 186, 2, 0, 0, 0, [])), (186, (17, 187, 0, 0, 0, 0, [])), (187, (20, 0, 0, 0, 0, 0, [])), (188, (2, 189, 0, 0, 0, 0, [])), (189, (1, 190, 1, 0, 0, 0, [])), (190, (30, 193, 148, 2, 145, 0, [(0, 8)])), (193, (20, 0, 0, 0, 0, 0, [])), (194, (2, 195, 0, 0, 0, 0, [])), (195, (14, 198, 8, 30, 90, 0, [])), (198, (2, 199, 0, 0, 0, 0, [])), (199, (14, 202, 8, 16, 80, 0, [])), (202, (1, 203, 1, 0, 0, 0, [])), (203, (16, 204, 0, 0, 0, 0, [])), (204, (2, 205, 0, 0, 0, 0, [])), (205, (2, 206, 0, 0, 0, 0, [])), (206, (14, 209, 8, 30, 90, 0, [])), (209, (2, 210, 0, 0, 0, 0, [])), (210, (14, 213, 8, 17, 81, 0, [])), (213, (1, 214, 1, 0, 0, 0, [])), (214, (16, 215, 0, 0, 0, 0, [])), (215, (16, 216, 0, 0, 0, 0, [])), (216, (18, 219, 142, 2, 137, 0, [(0, 8)])), (219, (32, 222, 226, 0, 0, 0, [])), (222, (0, 223, 0, 0, 0, 1, [])), (223, (12, 0, 227, 0, 0, 0, [])), (226, (0, 227, 0, 0, 0, 0, [])), (227, (17, 228, 0, 0, 0, 0, [])), (228, (20, 0, 0, 0, 0, 0, [])), (229, (2, 230, 0, 0, 0, 0, [])), (230, (14, 233, 8, 30, 90, 0, [])), (233, (2, 234, 0, 0, 0, 0, [])), (234, (14, 237, 8, 16, 80, 0, [])), (237, (1, 238, 1, 0, 0, 0, [])), (238, (16, 239, 0, 0, 0, 0, [])), (239, (2, 240, 0, 0, 0, 0, [])), (240, (14, 243, 8, 23, 99, 0, [])), (243, (2, 244, 0, 0, 0, 0, [])), (244, (14, 247, 8, 32, 95, 0, [])), (247, (16, 248, 0, 0, 0, 0, [])), (248, (17, 249, 0, 0, 0, 0, [])), (249, (20, 0, 0, 0, 0, 0, [])), (250, (2, 251, 0, 0, 0, 0, [])), (251, (1, 252, 1, 0, 0, 0, [])), (252, (30, 255, 149, 2, 146, 0, [(0, 8)])), (255, (20, 0, 0, 0, 0, 0, []))]
def zu_X8_statement : List (Nat × List Nat) := [(0, [0, 1]), (64, [0, 1]), (86, [0, 1]), (119, [0, 1]), (134, [0, 1]), (188, [0, 1]), (194, [0, 1]), (229, [0, 1]), (250, [0, 1])]
def zc_X8_patch : List (Nat × zO) := [(0, (2, 1, 0, 0, 0, 0, [])), (1, (14, 4, 8, 34, 94, 0, [])), (4, (32, 10049, 10007, 0, 0, 0, [])), (7, (2, 8, 0, 0, 0, 0, [])), (8, (2, 9, 0, 0, 0, 0, [])), (9, (14, 12, 8, 33, 100, 0, [])), (12, (18, 15, 136, 2, 135, 0, [(0, 8)])), (15, (32, 10018, 10053, 0, 0, 0, [])), (18, (2, 19, 0, 0, 0, 0, [])), (19, (14, 22, 8, 21, 92, 0, [])), (22, (2, 23, 0, 0, 0, 0, [])), (23, (14, 26, 8, 33, 100, 0, [])), (26, (16, 27, 0, 0, 0, 0, [])), (27, (0, 28, 0, 0, 0, 3, [])), (28, (35, 10053, 10031, 0, 0, 0, [])), (31, (2, 32, 0, 0, 0, 0, [])), (32, (14, 35, 8, 22, 98, 0, [])), (35, (2, 36, 0, 0, 0, 0, [])), (36, (14, 39, 8, 33, 100, 0, [])), (39, (16, 40, 0, 0, 0, 0, [])), (40, (2, 41, 0, 0, 0, 0, [])), (41, (14, 44, 8, 17, 81, 0, [])), (44, (1, 45, 1, 0, 0, 0, [])), (45, (16, 46, 0, 0, 0, 0, [])), (46, (35, 10053, 10049, 0, 0, 0, [])), (49, (0, 50, 0, 0, 0, 1, [])), (50, (12, 0, 54, 0, 0, 0, [])), (53, (0, 54, 0, 0, 0, 0, [])), (54, (4, 10055, 2, 0, 0, 0, [])), (55, (1, 56, 2, 0, 0, 0, [])), (56, (32, 59, 10076, 0, 0, 0, [])), (59, (2, 60, 0, 0, 0, 0, [])), (60, (0, 61, 0, 0, 0, 3, [])), (61, (2, 62, 0, 0, 0, 0, [])), (62, (14, 65, 8, 17, 81, 0, [])), (65, (1, 66, 1, 0, 0, 0, [])), (66, (16, 67, 0, 0, 0, 0, [])), (67, (0, 68, 0, 0, 0, 0, [])), (68, (18, 71, 141, 4, 144, 0, [(0, 8)])), (71, (0, 72, 0, 0, 0, (-1), [])), (72, (35, 10076, 75, 0, 0, 0, [])), (75, (20, 0, 0, 0, 0, 0, [])), (76, (2, 77, 0, 0, 0, 0, [])), (77, (14, 80, 8, 30, 90, 0, [])), (80, (2, 81, 0, 0, 0, 0, [])), (81, (14, 84, 8, 16, 80, 0, [])), (84, (1, 85, 1, 0, 0, 0, [])), (85, (16, 86, 0, 0, 0, 0, [])), (86, (1, 87, 2, 0, 0, 0, [])), (87, (32, 90, 94, 0, 0, 0, [])), (90, (0, 91, 0, 0, 0, 1, [])), (91, (12, 0, 95, 0, 0, 0, [])), (94, (0, 95, 0, 0, 0, 0, [])), (95, (17, 96, 0, 0, 0, 0, [])), (96, (20, 0, 0, 0, 0, 0, []))]
def zu_X8_patch : List (Nat × List Nat) := [(0, [0, 1]), (7, [0, 1]), (18, [0, 1]), (31, [0, 1]), (49, [0, 1]), (53, [0, 1]), (55, [0, 1, 2]), (76, [0, 1, 2])]
def zc_X8_waits : List (Nat × zO) := [(0, (2, 1, 0, 0, 0, 0, [])), (1, (1, 2, 1, 0, 0, 0, [])), (2, (18, 5, 144, 2, 147, 0, [(0, 8)])), (5, (4, 10006, 2, 0, 0, 0, [])), (6, (1, 7, 2, 0, 0, 0, [])), (7, (32, 10052, 10, 0, 0, 0, [])), (10, (2, 11, 0, 0, 0, 0, [])), (11, (14, 14, 8, 31, 93, 0, [])), (14, (32, 10052, 17, 0, 0, 0, [])), (17, (2, 18, 0, 0, 0, 0, [])), (18, (30, 21, 139, 1, 148, 0, [(0, 8)])), (21, (2, 22, 0, 0, 0, 0, [])), (22, (14, 25, 8, 31, 93, 0, [])), (25, (32, 47, 28, 0, 0, 0, [])), (28, (2, 29, 0, 0, 0, 0, [])), (29, (18, 32, 140, 1, 140, 0, [(0, 8)])), (32, (32, 35, 47, 0, 0, 0, [])), (35, (2, 36, 0, 0, 0, 0, [])), (36, (1, 37, 1, 0, 0, 0, [])), (37, (18, 40, 144, 2, 147, 0, [(0, 8)])), (40, (32, 43, 47, 0, 0, 0, [])), (43, (0, 44, 0, 0, 0, 1, [])), (44, (12, 0, 48, 0, 0, 0, [])), (47, (0, 48, 0, 0, 0, 0, [])), (48, (4, 49, 2, 0, 0, 0, [])), (49, (12, 0, 10006, 0, 0, 0, [])), (52, (1, 53, 2, 0, 0, 0, [])), (53, (32, 57, 56, 0, 0, 0, [])), (56, (20, 0, 0, 0, 0, 0, [])), (57, (2, 58, 0, 0, 0, 0, [])), (58, (14, 61, 8, 30, 90, 0, [])), (61, (2, 62, 0, 0, 0, 0, [])), (62, (14, 65, 8, 16, 80, 0, [])), (65, (1, 66, 1, 0, 0, 0, [])), (66, (16, 67, 0, 0, 0, 0, [])), (67, (2, 68, 0, 0, 0, 0, [])), (68, (14, 71, 8, 44, 104, 0, [])), (71, (17, 10072, 0, 0, 0, 0, [])), (72, (2, 73, 0, 0, 0, 0, [])), (73, (21, 74, 0, 0, 0, 0, [])), (74, (14, 77, 8, 37, 105, 0, [])), (77, (2, 78, 0, 0, 0, 0, [])), (78, (14, 81, 8, 15, 79, 0, [])), (81, (1, 82, 1, 0, 0, 0, [])), (82, (16, 83, 0, 0, 0, 0, [])), (83, (0, 84, 0, 0, 0, 5, [])), (84, (35, 91, 87, 0, 0, 0, [])), (87, (0, 88, 0, 0, 0, 1, [])), (88, (12, 0, 92, 0, 0, 0, [])), (91, (0, 92, 0, 0, 0, 0, [])), (92, (7, 93, 0, 0, 0, 0, [])), (93, (15, 96, 8, 37, 105, 0, [])), (96, (20, 0, 0, 0, 0, 0, []))]
def zu_X8_waits : List (Nat × List Nat) := [(0, [0, 1]), (6, [0, 1, 2]), (52, [0, 1, 2]), (72, [0, 1])]
def zc_X8_stop : List (Nat × zO) := [(0, (2, 1, 0, 0, 0, 0, [])), (1, (0, 2, 0, 0, 0, 4, [])), (2, (0, 3, 0, 0, 0, 0, [])), (3, (1, 4, 1, 0, 0, 0, [])), (4, (18, 7, 141, 4, 144, 0, [(0, 8)])), (7, (0, 8, 0, 0, 0, (-1), [])), (8, (35, 12, 11, 0, 0, 0, [])), (11, (20, 0, 0, 0, 0, 0, [])), (12, (2, 13, 0, 0, 0, 0, [])), (13, (0, 14, 0, 0, 0, 1, [])), (14, (31, 10017, 8, 38, 103, 0, [])), (17, (2, 18, 0, 0, 0, 0, [])), (18, (14, 21, 8, 31, 93, 0, [])), (21, (32, 31, 24, 0, 0, 0, [])), (24, (2, 25, 0, 0, 0, 0, [])), (25, (30, 28, 139, 1, 148, 0, [(0, 8)])), (28, (12, 0, 10017, 0, 0, 0, [])), (31, (20, 0, 0, 0, 0, 0, []))]
def zu_X8_stop : List (Nat × List Nat) := [(0, [0, 1]), (17, [0])]
def zc_X8_run : List (Nat × zO) := [(0, (0, 1, 0, 0, 0, 0, [])), (1, (4, 10002, 1, 0, 0, 0, [])), (2, (1, 3, 1, 0, 0, 0, [])), (3, (0, 5, 0, 0, 0, 8, [])), (5, (36, 21, 8, 0, 0, 0, [])), (8, (2, 9, 0, 0, 0, 0, [])), (9, (14, 12, 8, 30, 90, 0, [])), (12, (1, 13, 1, 0, 0, 0, [])), (13, (0, 14, 0, 0, 0, 0, [])), (14, (17, 15, 0, 0, 0, 0, [])), (15, (6, 18, 1, 0, 0, 1, [])), (18, (12, 0, 10002, 0, 0, 0, [])), (21, (2, 22, 0, 0, 0, 0, [])), (22, (0, 23, 0, 0, 0, 0, [])), (23, (15, 26, 8, 31, 93, 0, [])), (26, (2, 27, 0, 0, 0, 0, [])), (27, (0, 28, 0, 0, 0, 0, [])), (28, (31, 31, 8, 34, 94, 0, [])), (31, (2, 32, 0, 0, 0, 0, [])), (32, (0, 33, 0, 0, 0, 0, [])), (33, (31, 36, 8, 38, 103, 0, [])), (36, (2, 37, 0, 0, 0, 0, [])), (37, (0, 38, 0, 0, 0, 0, [])), (38, (15, 41, 8, 36, 102, 0, [])), (41, (2, 42, 0, 0, 0, 0, [])), (42, (0, 43, 0, 0, 0, 0, [])), (43, (15, 46, 8, 37, 105, 0, [])), (46, (2, 47, 0, 0, 0, 0, [])), (47, (0, 48, 0, 0, 0, 0, [])), (48, (15, 51, 8, 32, 95, 0, [])), (51, (2, 52, 0, 0, 0, 0, [])), (52, (0, 53, 0, 0, 0, 0, [])), (53, (15, 10056, 8, 33, 100, 0, [])), (56, (2, 57, 0, 0, 0, 0, [])), (57, (14, 60, 8, 33, 100, 0, [])), (60, (2, 61, 0, 0, 0, 0, [])), (61, (14, 64, 8, 20, 91, 0, [])), (64, (36, 92, 67, 0, 0, 0, [])), (67, (2, 68, 0, 0, 0, 0, [])), (68, (14, 71, 8, 21, 92, 0, [])), (71, (2, 72, 0, 0, 0, 0, [])), (72, (14, 75, 8, 33, 100, 0, [])), (75, (16, 76, 0, 0, 0, 0, [])), (76, (32, 79, 92, 0, 0, 0, [])), (79, (2, 80, 0, 0, 0, 0, [])), (80, (21, 81, 0, 0, 0, 0, [])), (81, (14, 84, 8, 33, 100, 0, [])), (84, (0, 85, 0, 0, 0, 1, [])), (85, (7, 86, 0, 0, 0, 0, [])), (86, (15, 89, 8, 33, 100, 0, [])), (89, (12, 0, 10056, 0, 0, 0, [])), (92, (2, 93, 0, 0, 0, 0, [])), (93, (14, 96, 8, 33, 100, 0, [])), (96, (2, 97, 0, 0, 0, 0, [])), (97, (14, 100, 8, 20, 91, 0, [])), (100, (35, 110, 103, 0, 0, 0, [])), (103, (2, 104, 0, 0, 0, 0, [])), (104, (30, 107, 137, 1, 136, 0, [(0, 8)])), (107, (12, 0, 128, 0, 0, 0, [])), (110, (2, 111, 0, 0, 0, 0, [])), (111, (2, 112, 0, 0, 0, 0, [])), (112, (14, 115, 8, 33, 100, 0, [])), (115, (15, 118, 8, 32, 95, 0, [])), (118, (2, 119, 0, 0, 0, 0, [])), (119, (21, 120, 0, 0, 0, 0, [])), (120, (14, 123, 8, 33, 100, 0, [])), (123, (0, 124, 0, 0, 0, 1, [])), (124, (7, 125, 0, 0, 0, 0, [])), (125, (15, 128, 8, 33, 100, 0, [])), (128, (2, 129, 0, 0, 0, 0, [])), (129, (14, 132, 8, 31, 93, 0, [])), (132, (32, 135, 136, 0, 0, 0, [])), (135, (20, 0, 0, 0, 0, 0, [])), (136, (2, 137, 0, 0, 0, 0, [])), (137, (2, 138, 0, 0, 0, 0, [])), (138, (14, 141, 8, 12, 88, 0, [])), (141, (2, 142, 0, 0, 0, 0, [])), (142, (14, 145, 8, 10, 77, 0, [])), (145, (16, 146, 0, 0, 0, 0, [])), (146, (30, 149, 145, 2, 142, 0, [(0, 8)])), (149, (2, 150, 0, 0, 0, 0, [])), (150, (14, 153, 8, 31, 93, 0, [])), (153, (32, 161, 156, 0, 0, 0, [])), (156, (2, 157, 0, 0, 0, 0, [])), (157, (0, 158, 0, 0, 0, 0, [])), (158, (30, 161, 150, 2, 143, 0, [(0, 8)])), (161, (20, 0, 0, 0, 0, 0, []))]
def zu_X8_run : List (Nat × List Nat) := [(0, [0]), (2, [0, 1]), (56, [0])]
def zc_X8_decide : List (Nat × zO) := [(0, (2, 1, 0, 0, 0, 0, [])), (1, (0, 2, 0, 0, 0, (-1), [])), (2, (15, 5, 8, 29, 106, 0, [])), (5, (2, 6, 0, 0, 0, 0, [])), (6, (0, 7, 0, 0, 0, 1, [])), (7, (15, 10, 8, 28, 107, 0, [])), (10, (2, 11, 0, 0, 0, 0, [])), (11, (14, 14, 8, 11, 89, 0, [])), (14, (32, 23, 17, 0, 0, 0, [])), (17, (2, 18, 0, 0, 0, 0, [])), (18, (0, 19, 0, 0, 0, 1, [])), (19, (18, 22, 108, 2, 132, 0, [(0, 8)])), (22, (19, 0, 0, 0, 0, 0, [])), (23, (2, 24, 0, 0, 0, 0, [])), (24, (1, 25, 1, 0, 0, 0, [])), (25, (15, 28, 8, 39, 97, 0, [])), (28, (2, 29, 0, 0, 0, 0, [])), (29, (30, 32, 151, 1, 149, 0, [(0, 8)])), (32, (2, 33, 0, 0, 0, 0, [])), (33, (2, 34, 0, 0, 0, 0, [])), (34, (14, 37, 8, 31, 93, 0, [])), (37, (0, 39, 0, 0, 0, 9, [])), (39, (35, 46, 42, 0, 0, 0, [])), (42, (0, 43, 0, 0, 0, 0, [])), (43, (12, 0, 50, 0, 0, 0, [])), (46, (2, 47, 0, 0, 0, 0, [])), (47, (14, 50, 8, 31, 93, 0, [])), (50, (15, 53, 8, 28, 107, 0, [])), (53, (2, 54, 0, 0, 0, 0, [])), (54, (14, 57, 8, 28, 107, 0, [])), (57, (0, 58, 0, 0, 0, 2, [])), (58, (35, 69, 61, 0, 0, 0, [])), (61, (2, 62, 0, 0, 0, 0, [])), (62, (2, 63, 0, 0, 0, 0, [])), (63, (14, 66, 8, 40, 101, 0, [])), (66, (15, 69, 8, 29, 106, 0, [])), (69, (2, 70, 0, 0, 0, 0, [])), (70, (14, 73, 8, 28, 107, 0, [])), (73, (32, 76, 82, 0, 0, 0, [])), (76, (2, 77, 0, 0, 0, 0, [])), (77, (0, 78, 0, 0, 0, 1, [])), (78, (18, 81, 108, 2, 132, 0, [(0, 8)])), (81, (19, 0, 0, 0, 0, 0, [])), (82, (2, 83, 0, 0, 0, 0, [])), (83, (0, 84, 0, 0, 0, 0, [])), (84, (15, 87, 8, 0, 67, 0, [])), (87, (2, 88, 0, 0, 0, 0, [])), (88, (14, 91, 8, 35, 96, 0, [])), (91, (2, 92, 0, 0, 0, 0, [])), (92, (14, 95, 8, 20, 91, 0, [])), (95, (7, 96, 0, 1, 0, 0, [])), (96, (0, 97, 0, 0, 0, 1, [])), (97, (7, 98, 0, 1, 0, 0, [])), (98, (4, 99, 2, 0, 0, 0, [])), (99, (2, 100, 0, 0, 0, 0, [])), (100, (2, 101, 0, 0, 0, 0, [])), (101, (14, 104, 8, 35, 96, 0, [])), (104, (15, 107, 8, 20, 91, 0, [])), (107, (0, 108, 0, 0, 0, 0, [])), (108, (4, 10109, 3, 0, 0, 0, [])), (109, (1, 110, 3, 0, 0, 0, [])), (110, (0, 112, 0, 0, 0, 8, [])), (112, (36, 133, 115, 0, 0, 0, [])), (115, (2, 116, 0, 0, 0, 0, [])), (116, (14, 119, 8, 24, 108, 0, [])), (119, (1, 120, 3, 0, 0, 0, [])), (120, (2, 121, 0, 0, 0, 0, [])), (121, (14, 124, 8, 30, 90, 0, [])), (124, (1, 125, 3, 0, 0, 0, [])), (125, (16, 126, 0, 0, 0, 0, [])), (126, (17, 127, 0, 0, 0, 0, [])), (127, (6, 130, 3, 0, 0, 1, [])), (130, (12, 0, 10109, 0, 0, 0, [])), (133, (2, 134, 0, 0, 0, 0, [])), (134, (2, 135, 0, 0, 0, 0, [])), (135, (14, 138, 8, 38, 103, 0, [])), (138, (32, 141, 145, 0, 0, 0, [])), (141, (0, 142, 0, 0, 0, 1, [])), (142, (12, 0, 146, 0, 0, 0, [])), (145, (0, 146, 0, 0, 0, 0, [])), (146, (15, 149, 8, 25, 109, 0, [])), (149, (2, 150, 0, 0, 0, 0, [])), (150, (2, 151, 0, 0, 0, 0, [])), (151, (14, 154, 8, 36, 102, 0, [])), (154, (15, 157, 8, 26, 110, 0, [])), (157, (2, 158, 0, 0, 0, 0, [])), (158, (2, 159, 0, 0, 0, 0, [])), (159, (14, 162, 8, 37, 105, 0, [])), (162, (15, 165, 8, 27, 111, 0, [])), (165, (1, 166, 2, 0, 0, 0, [])), (166, (19, 0, 0, 0, 0, 0, []))]
def zu_X8_decide : List (Nat × List Nat) := [(0, [0, 1]), (109, [0, 2, 3])]
def zc_X8_refused : List (Nat × zO) := [(0, (2, 1, 0, 0, 0, 0, [])), (1, (0, 2, 0, 0, 0, 0, [])), (2, (15, 5, 8, 0, 67, 0, [])), (5, (2, 6, 0, 0, 0, 0, [])), (6, (14, 9, 8, 28, 107, 0, [])), (9, (19, 0, 0, 0, 0, 0, []))]
def zu_X8_refused : List (Nat × List Nat) := [(0, [0])]
def zc_X8_differs : List (Nat × zO) := [(0, (2, 1, 0, 0, 0, 0, [])), (1, (0, 2, 0, 0, 0, 0, [])), (2, (15, 5, 8, 0, 67, 0, [])), (5, (2, 6, 0, 0, 0, 0, [])), (6, (14, 9, 8, 29, 106, 0, [])), (9, (19, 0, 0, 0, 0, 0, []))]
def zu_X8_differs : List (Nat × List Nat) := [(0, [0])]
def zc_X8_isGone : List (Nat × zO) := [(0, (1, 1, 1, 0, 0, 0, [])), (1, (0, 2, 0, 0, 0, 1, [])), (2, (7, 3, 0, 0, 0, 0, [])), (3, (4, 10004, 2, 0, 0, 0, [])), (4, (1, 5, 2, 0, 0, 0, [])), (5, (2, 6, 0, 0, 0, 0, [])), (6, (14, 9, 8, 20, 91, 0, [])), (9, (36, 51, 12, 0, 0, 0, [])), (12, (2, 13, 0, 0, 0, 0, [])), (13, (14, 16, 8, 21, 92, 0, [])), (16, (1, 17, 2, 0, 0, 0, [])), (17, (16, 18, 0, 0, 0, 0, [])), (18, (0, 19, 0, 0, 0, 5, [])), (19, (36, 22, 45, 0, 0, 0, [])), (22, (2, 23, 0, 0, 0, 0, [])), (23, (14, 26, 8, 21, 92, 0, [])), (26, (1, 27, 2, 0, 0, 0, [])), (27, (16, 28, 0, 0, 0, 0, [])), (28, (0, 30, 0, 0, 0, 7, [])), (30, (37, 33, 45, 0, 0, 0, [])), (33, (2, 34, 0, 0, 0, 0, [])), (34, (14, 37, 8, 22, 98, 0, [])), (37, (1, 38, 2, 0, 0, 0, [])), (38, (16, 39, 0, 0, 0, 0, [])), (39, (1, 40, 1, 0, 0, 0, [])), (40, (35, 45, 43, 0, 0, 0, [])), (43, (0, 44, 0, 0, 0, 1, [])), (44, (19, 0, 0, 1, 0, 0, [])), (45, (6, 48, 2, 0, 0, 1, [])), (48, (12, 0, 10004, 0, 0, 0, [])), (51, (0, 52, 0, 0, 0, 0, [])), (52, (19, 0, 0, 1, 0, 0, []))]
def zu_X8_isGone : List (Nat × List Nat) := [(0, [0, 1]), (4, [0, 1, 2])]
def zc_X8_happen : List (Nat × zO) := [(0, (2, 1, 0, 0, 0, 0, [])), (1, (0, 2, 0, 0, 0, 0, [])), (2, (15, 5, 8, 0, 67, 0, [])), (5, (2, 6, 0, 0, 0, 0, [])), (6, (14, 9, 8, 20, 91, 0, [])), (9, (0, 12, 0, 0, 0, 200, [])), (12, (36, 10045, 15, 0, 0, 0, [])), (15, (1, 16, 1, 0, 0, 0, [])), (16, (0, 17, 0, 0, 0, 5, [])), (17, (36, 20, 10045, 0, 0, 0, [])), (20, (1, 21, 1, 0, 0, 0, [])), (21, (0, 23, 0, 0, 0, 8, [])), (23, (37, 26, 10045, 0, 0, 0, [])), (26, (1, 27, 1, 0, 0, 0, [])), (27, (0, 28, 0, 0, 0, 5, [])), (28, (35, 31, 10041, 0, 0, 0, [])), (31, (1, 32, 1, 0, 0, 0, [])), (32, (0, 34, 0, 0, 0, 8, [])), (34, (35, 37, 10041, 0, 0, 0, [])), (37, (1, 38, 3, 0, 0, 0, [])), (38, (32, 10045, 10041, 0, 0, 0, [])), (41, (0, 42, 0, 0, 0, 1, [])), (42, (12, 0, 46, 0, 0, 0, [])), (45, (0, 46, 0, 0, 0, 0, [])), (46, (4, 48, 4, 0, 0, 0, [])), (48, (1, 49, 1, 0, 0, 0, [])), (49, (0, 51, 0, 0, 0, 8, [])), (51, (35, 73, 54, 0, 0, 0, [])), (54, (1, 56, 4, 0, 0, 0, [])), (56, (32, 59, 67, 0, 0, 0, [])), (59, (1, 60, 2, 0, 0, 0, [])), (60, (32, 67, 63, 0, 0, 0, [])), (63, (0, 64, 0, 0, 0, 1, [])), (64, (12, 0, 68, 0, 0, 0, [])), (67, (0, 68, 0, 0, 0, 0, [])), (68, (4, 70, 4, 0, 0, 0, [])), (70, (12, 0, 125, 0, 0, 0, [])), (73, (1, 75, 4, 0, 0, 0, [])), (75, (32, 78, 122, 0, 0, 0, [])), (78, (1, 79, 2, 0, 0, 0, [])), (79, (33, 82, 122, 0, 0, 0, [])), (82, (1, 83, 2, 0, 0, 0, [])), (83, (2, 84, 0, 0, 0, 0, [])), (84, (14, 87, 8, 20, 91, 0, [])), (87, (36, 122, 90, 0, 0, 0, [])), (90, (2, 91, 0, 0, 0, 0, [])), (91, (14, 94, 8, 21, 92, 0, [])), (94, (1, 95, 2, 0, 0, 0, [])), (95, (16, 96, 0, 0, 0, 0, [])), (96, (1, 97, 1, 0, 0, 0, [])), (97, (0, 99, 0, 0, 0, 7, [])), (99, (35, 106, 102, 0, 0, 0, [])), (102, (0, 103, 0, 0, 0, 2, [])), (103, (12, 0, 107, 0, 0, 0, [])), (106, (0, 107, 0, 0, 0, 1, [])), (107, (35, 122, 110, 0, 0, 0, [])), (110, (2, 111, 0, 0, 0, 0, [])), (111, (1, 112, 2, 0, 0, 0, [])), (112, (18, 115, 155, 2, 150, 0, [(0, 8)])), (115, (32, 122, 118, 0, 0, 0, [])), (118, (0, 119, 0, 0, 0, 1, [])), (119, (12, 0, 123, 0, 0, 0, [])), (122, (0, 123, 0, 0, 0, 0, [])), (123, (4, 125, 4, 0, 0, 0, [])), (125, (1, 127, 4, 0, 0, 0, [])), (127, (32, 132, 130, 0, 0, 0, [])), (130, (0, 131, 0, 0, 0, 0, [])), (131, (19, 0, 0, 1, 0, 0, [])), (132, (2, 133, 0, 0, 0, 0, [])), (133, (14, 136, 8, 21, 92, 0, [])), (136, (2, 137, 0, 0, 0, 0, [])), (137, (14, 140, 8, 20, 91, 0, [])), (140, (1, 141, 1, 0, 0, 0, [])), (141, (17, 142, 0, 0, 0, 0, [])), (142, (2, 143, 0, 0, 0, 0, [])), (143, (14, 146, 8, 22, 98, 0, [])), (146, (2, 147, 0, 0, 0, 0, [])), (147, (14, 150, 8, 20, 91, 0, [])), (150, (1, 151, 2, 0, 0, 0, [])), (151, (17, 152, 0, 0, 0, 0, [])), (152, (2, 153, 0, 0, 0, 0, [])), (153, (14, 156, 8, 23, 99, 0, [])), (156, (2, 157, 0, 0, 0, 0, [])), (157, (14, 160, 8, 20, 91, 0, [])), (160, (1, 161, 3, 0, 0, 0, [])), (161, (17, 162, 0, 0, 0, 0, [])), (162, (2, 163, 0, 0, 0, 0, [])), (163, (21, 164, 0, 0, 0, 0, [])), (164, (14, 167, 8, 20, 91, 0, [])), (167, (0, 168, 0, 0, 0, 1, [])), (168, (7, 169, 0, 0, 0, 0, [])), (169, (15, 172, 8, 20, 91, 0, [])), (172, (0, 173, 0, 0, 0, 1, [])), (173, (19, 0, 0, 1, 0, 0, []))]
def zu_X8_happen : List (Nat × List Nat) := [(0, [0, 1, 2, 3]), (41, [0, 1, 2, 3]), (45, [0, 1, 2, 3])]
def zc_X8_crash : List (Nat × zO) := [(0, (2, 1, 0, 0, 0, 0, [])), (1, (0, 2, 0, 0, 0, 0, [])), (2, (15, 5, 8, 0, 67, 0, [])), (5, (20, 0, 0, 0, 0, 0, []))]
def zu_X8_crash : List (Nat × List Nat) := [(0, [0])]
def zc_X8_clear : List (Nat × zO) := [(0, (2, 1, 0, 0, 0, 0, [])), (1, (0, 2, 0, 0, 0, 0, [])), (2, (15, 5, 8, 0, 67, 0, [])), (5, (2, 6, 0, 0, 0, 0, [])), (6, (0, 7, 0, 0, 0, 0, [])), (7, (15, 10, 8, 20, 91, 0, [])), (10, (0, 11, 0, 0, 0, 0, [])), (11, (4, 10012, 1, 0, 0, 0, [])), (12, (1, 13, 1, 0, 0, 0, [])), (13, (0, 15, 0, 0, 0, 8, [])), (15, (36, 31, 18, 0, 0, 0, [])), (18, (2, 19, 0, 0, 0, 0, [])), (19, (14, 22, 8, 24, 108, 0, [])), (22, (1, 23, 1, 0, 0, 0, [])), (23, (0, 24, 0, 0, 0, 0, [])), (24, (17, 25, 0, 0, 0, 0, [])), (25, (6, 28, 1, 0, 0, 1, [])), (28, (12, 0, 10012, 0, 0, 0, [])), (31, (2, 32, 0, 0, 0, 0, [])), (32, (0, 33, 0, 0, 0, 0, [])), (33, (15, 36, 8, 25, 109, 0, [])), (36, (2, 37, 0, 0, 0, 0, [])), (37, (0, 38, 0, 0, 0, 0, [])), (38, (15, 41, 8, 26, 110, 0, [])), (41, (2, 42, 0, 0, 0, 0, [])), (42, (0, 43, 0, 0, 0, 0, [])), (43, (15, 46, 8, 27, 111, 0, [])), (46, (20, 0, 0, 0, 0, 0, []))]
def zu_X8_clear : List (Nat × List Nat) := [(0, [0]), (12, [0, 1])]
def zc_X8_event : List (Nat × zO) := [(0, (2, 1, 0, 0, 0, 0, [])), (1, (1, 2, 1, 0, 0, 0, [])), (2, (33, 5, 22, 0, 0, 0, [])), (5, (1, 6, 1, 0, 0, 0, [])), (6, (2, 7, 0, 0, 0, 0, [])), (7, (14, 10, 8, 20, 91, 0, [])), (10, (36, 22, 13, 0, 0, 0, [])), (13, (1, 14, 2, 0, 0, 0, [])), (14, (33, 17, 22, 0, 0, 0, [])), (17, (1, 18, 2, 0, 0, 0, [])), (18, (0, 19, 0, 0, 0, 2, [])), (19, (37, 26, 22, 0, 0, 0, [])), (22, (0, 23, 0, 0, 0, 1, [])), (23, (12, 0, 27, 0, 0, 0, [])), (26, (0, 27, 0, 0, 0, 0, [])), (27, (15, 30, 8, 0, 67, 0, [])), (30, (2, 31, 0, 0, 0, 0, [])), (31, (14, 34, 8, 0, 67, 0, [])), (34, (34, 39, 37, 0, 0, 0, [])), (37, (0, 38, 0, 0, 0, 0, [])), (38, (19, 0, 0, 0, 0, 0, [])), (39, (1, 40, 2, 0, 0, 0, [])), (40, (32, 52, 43, 0, 0, 0, [])), (43, (2, 44, 0, 0, 0, 0, [])), (44, (14, 47, 8, 21, 92, 0, [])), (47, (1, 48, 1, 0, 0, 0, [])), (48, (16, 49, 0, 0, 0, 0, [])), (49, (12, 0, 72, 0, 0, 0, [])), (52, (1, 53, 2, 0, 0, 0, [])), (53, (0, 54, 0, 0, 0, 1, [])), (54, (35, 66, 57, 0, 0, 0, [])), (57, (2, 58, 0, 0, 0, 0, [])), (58, (14, 61, 8, 22, 98, 0, [])), (61, (1, 62, 1, 0, 0, 0, [])), (62, (16, 63, 0, 0, 0, 0, [])), (63, (12, 0, 72, 0, 0, 0, [])), (66, (2, 67, 0, 0, 0, 0, [])), (67, (14, 70, 8, 23, 99, 0, [])), (70, (1, 71, 1, 0, 0, 0, [])), (71, (16, 72, 0, 0, 0, 0, [])), (72, (19, 0, 0, 0, 0, 0, []))]
def zu_X8_event : List (Nat × List Nat) := [(0, [0, 1, 2])]
def zc_X8_register : List (Nat × zO) := [(0, (2, 1, 0, 0, 0, 0, [])), (1, (1, 2, 1, 0, 0, 0, [])), (2, (33, 5, 11, 0, 0, 0, [])), (5, (1, 6, 1, 0, 0, 0, [])), (6, (0, 8, 0, 0, 0, 7, [])), (8, (37, 15, 11, 0, 0, 0, [])), (11, (0, 12, 0, 0, 0, 1, [])), (12, (12, 0, 16, 0, 0, 0, [])), (15, (0, 16, 0, 0, 0, 0, [])), (16, (15, 19, 8, 0, 67, 0, [])), (19, (2, 20, 0, 0, 0, 0, [])), (20, (14, 23, 8, 0, 67, 0, [])), (23, (34, 30, 26, 0, 0, 0, [])), (26, (0, 27, 0, 0, 0, 0, [])), (27, (12, 0, 36, 0, 0, 0, [])), (30, (2, 31, 0, 0, 0, 0, [])), (31, (14, 34, 8, 24, 108, 0, [])), (34, (1, 35, 1, 0, 0, 0, [])), (35, (16, 36, 0, 0, 0, 0, [])), (36, (19, 0, 0, 0, 0, 0, []))]
def zu_X8_register : List (Nat × List Nat) := [(0, [0, 1])]
def zc_X8_total : List (Nat × zO) := [(0, (2, 1, 0, 0, 0, 0, [])), (1, (0, 2, 0, 0, 0, 0, [])), (2, (15, 5, 8, 0, 67, 0, [])), (5, (0, 6, 0, 0, 0, 0, [])), (6, (4, 7, 2, 0, 0, 0, [])), (7, (0, 8, 0, 0, 0, 0, [])), (8, (4, 9, 3, 0, 0, 0, [])), (9, (0, 10, 0, 0, 0, 0, [])), (10, (4, 10012, 4, 0, 0, 0, [])), (12, (1, 14, 4, 0, 0, 0, [])), (14, (2, 15, 0, 0, 0, 0, [])), (15, (14, 18, 8, 20, 91, 0, [])), (18, (36, 75, 21, 0, 0, 0, [])), (21, (1, 22, 2, 0, 0, 0, [])), (22, (2, 23, 0, 0, 0, 0, [])), (23, (14, 26, 8, 21, 92, 0, [])), (26, (1, 28, 4, 0, 0, 0, [])), (28, (16, 29, 0, 0, 0, 0, [])), (29, (0, 30, 0, 0, 0, 1, [])), (30, (36, 33, 48, 0, 0, 0, [])), (33, (2, 34, 0, 0, 0, 0, [])), (34, (14, 37, 8, 21, 92, 0, [])), (37, (1, 39, 4, 0, 0, 0, [])), (39, (16, 40, 0, 0, 0, 0, [])), (40, (0, 41, 0, 0, 0, 4, [])), (41, (37, 44, 48, 0, 0, 0, [])), (44, (0, 45, 0, 0, 0, 1, [])), (45, (12, 0, 49, 0, 0, 0, [])), (48, (0, 49, 0, 0, 0, 0, [])), (49, (7, 50, 0, 0, 0, 0, [])), (50, (4, 51, 2, 0, 0, 0, [])), (51, (1, 52, 3, 0, 0, 0, [])), (52, (2, 53, 0, 0, 0, 0, [])), (53, (14, 56, 8, 21, 92, 0, [])), (56, (1, 58, 4, 0, 0, 0, [])), (58, (16, 59, 0, 0, 0, 0, [])), (59, (32, 66, 62, 0, 0, 0, [])), (62, (0, 63, 0, 0, 0, 1, [])), (63, (12, 0, 67, 0, 0, 0, [])), (66, (0, 67, 0, 0, 0, 0, [])), (67, (7, 68, 0, 0, 0, 0, [])), (68, (4, 69, 3, 0, 0, 0, [])), (69, (6, 72, 4, 0, 0, 1, [])), (72, (12, 0, 10012, 0, 0, 0, [])), (75, (1, 76, 1, 0, 0, 0, [])), (76, (13, 0, 140, 0, 0, 0, [(0, 116), (1, 121), (2, 123), (3, 125), (4, 130), (5, 135)])), (116, (2, 117, 0, 0, 0, 0, [])), (117, (14, 120, 8, 20, 91, 0, [])), (120, (19, 0, 0, 0, 0, 0, [])), (121, (1, 122, 2, 0, 0, 0, [])), (122, (19, 0, 0, 0, 0, 0, [])), (123, (1, 124, 3, 0, 0, 0, [])), (124, (19, 0, 0, 0, 0, 0, [])), (125, (2, 126, 0, 0, 0, 0, [])), (126, (14, 129, 8, 25, 109, 0, [])), (129, (19, 0, 0, 0, 0, 0, [])), (130, (2, 131, 0, 0, 0, 0, [])), (131, (14, 134, 8, 26, 110, 0, [])), (134, (19, 0, 0, 0, 0, 0, [])), (135, (2, 136, 0, 0, 0, 0, [])), (136, (14, 139, 8, 27, 111, 0, [])), (139, (19, 0, 0, 0, 0, 0, [])), (140, (0, 141, 0, 0, 0, (-1), [])), (141, (19, 0, 0, 0, 0, 0, []))]
def zu_X8_total : List (Nat × List Nat) := [(0, [0, 1]), (12, [0, 1, 2, 3, 4])]
/-- methods: class, name, locals, return, code, cuts; and the place of its code in lw_tbl -/
abbrev zMI : Type := String × MethodName × Nat × Option FieldType × List (Nat × zO) × List (Nat × List Nat)
abbrev mX0_wipe : Nat := 0
abbrev mX0_size : Nat := 1
abbrev mX0_holds : Nat := 2
abbrev mX0_kindAt : Nat := 3
abbrev mX0_refAt : Nat := 4
abbrev mX0_valueAt : Nat := 5
abbrev mX0_count : Nat := 6
abbrev mX0_add : Nat := 7
abbrev mX0_addOfOthers : Nat := 8
abbrev mX0_dropDecision : Nat := 9
abbrev mX0_decisionEnd : Nat := 10
abbrev mX0_isAt : Nat := 11
abbrev mX0_endOf : Nat := 12
abbrev mX0_signal : Nat := 13
abbrev mX0_addSignal : Nat := 14
abbrev mX0_fits : Nat := 15
abbrev mX0_isOpen : Nat := 16
abbrev mX1_wipe : Nat := 17
abbrev mX1_copyFrom : Nat := 18
abbrev mX1_size : Nat := 19
abbrev mX1_statementCount : Nat := 20
abbrev mX1_add : Nat := 21
abbrev mX1_addJump : Nat := 22
abbrev mX1_addItem : Nat := 23
abbrev mX1_setSort : Nat := 24
abbrev mX1_setFirst : Nat := 25
abbrev mX1_setSecond : Nat := 26
abbrev mX1_sortAt : Nat := 27
abbrev mX1_targetAt : Nat := 28
abbrev mX1_firstAt : Nat := 29
abbrev mX1_secondAt : Nat := 30
abbrev mX1_firstItem : Nat := 31
abbrev mX1_itemEnd : Nat := 32
abbrev mX1_itemSort : Nat := 33
abbrev mX1_itemValue : Nat := 34
abbrev mX1_holds : Nat := 35
abbrev mX2_read : Nat := 36
abbrev mX2_readStatements : Nat := 37
abbrev mX2_isBlockEnd : Nat := 38
abbrev mX2_readStatement : Nat := 39
abbrev mX2_readChoice : Nat := 40
abbrev mX2_readLoop : Nat := 41
abbrev mX2_readStop : Nat := 42
abbrev mX2_readAssignment : Nat := 43
abbrev mX2_readRest : Nat := 44
abbrev mX2_readFirst : Nat := 45
abbrev mX2_readSecond : Nat := 46
abbrev mX2_readX : Nat := 47
abbrev mX2_readPart : Nat := 48
abbrev mX2_readTerm : Nat := 49
abbrev mX2_readFactor : Nat := 50
abbrev mX3_restart : Nat := 51
abbrev mX3_copyFrom : Nat := 52
abbrev mX3_get : Nat := 53
abbrev mX3_set : Nat := 54
abbrev mX4_catchUp : Nat := 55
abbrev mX4_addDecision : Nat := 56
abbrev mX4_runDecision : Nat := 57
abbrev mX4_turn : Nat := 58
abbrev mX4_finish : Nat := 59
abbrev mX4_order : Nat := 60
abbrev mX4_stop : Nat := 61
abbrev mX4_patch : Nat := 62
abbrev mX4_want : Nat := 63
abbrev mX4_differ : Nat := 64
abbrev mX4_waitFor : Nat := 65
abbrev mX4_waitForAny : Nat := 66
abbrev mX4_takeSignal : Nat := 67
abbrev mX4_endOf : Nat := 68
abbrev mX4_workOut : Nat := 69
abbrev mX4_work : Nat := 70
abbrev mX4_join : Nat := 71
abbrev mX4_push : Nat := 72
abbrev mX4_pop : Nat := 73
abbrev mX5_put : Nat := 74
abbrev mX5_wipe : Nat := 75
abbrev mX5_length : Nat := 76
abbrev mX5_at : Nat := 77
abbrev mX5_byteOf : Nat := 78
abbrev mX6_scan : Nat := 79
abbrev mX6_kind : Nat := 80
abbrev mX6_place : Nat := 81
abbrev mX6_value : Nat := 82
abbrev mX6_skip : Nat := 83
abbrev mX6_take : Nat := 84
abbrev mX6_isWord : Nat := 85
abbrev mX6_add : Nat := 86
abbrev mX6_addFrom : Nat := 87
abbrev mX6_addName : Nat := 88
abbrev mX6_addNumber : Nat := 89
abbrev mX6_isStart : Nat := 90
abbrev mX6_isLetter : Nat := 91
abbrev mX6_isDigit : Nat := 92
abbrev mX6_sortOfWord : Nat := 93
abbrev mX6_spells : Nat := 94
abbrev mX7_type : Nat := 95
abbrev mX7_program : Nat := 96
abbrev mX7_fault : Nat := 97
abbrev mX7_decide : Nat := 98
abbrev mX7_refused : Nat := 99
abbrev mX7_differs : Nat := 100
abbrev mX7_happen : Nat := 101
abbrev mX7_crash : Nat := 102
abbrev mX7_clear : Nat := 103
abbrev mX7_event : Nat := 104
abbrev mX7_register : Nat := 105
abbrev mX7_total : Nat := 106
abbrev mX8_thrown : Nat := 107
abbrev mX8_raise : Nat := 108
abbrev mX8_type : Nat := 109
abbrev mX8_see : Nat := 110
abbrev mX8_isDigit : Nat := 111
abbrev mX8_isLetter : Nat := 112
abbrev mX8_isSign : Nat := 113
abbrev mX8_token : Nat := 114
abbrev mX8_spelt : Nat := 115
abbrev mX8_nameOf : Nat := 116
abbrev mX8_tokenize : Nat := 117
abbrev mX8_refuse : Nat := 118
abbrev mX8_is : Nat := 119
abbrev mX8_takes : Nat := 120
abbrev mX8_want : Nat := 121
abbrev mX8_deeper : Nat := 122
abbrev mX8_node : Nat := 123
abbrev mX8_readX : Nat := 124
abbrev mX8_readSum : Nat := 125
abbrev mX8_readTerm : Nat := 126
abbrev mX8_readFactor : Nat := 127
abbrev mX8_readRegister : Nat := 128
abbrev mX8_readNumber : Nat := 129
abbrev mX8_readList : Nat := 130
abbrev mX8_readStatement : Nat := 131
abbrev mX8_readTurn : Nat := 132
abbrev mX8_program : Nat := 133
abbrev mX8_fault : Nat := 134
abbrev mX8_work : Nat := 135
abbrev mX8_isCommand : Nat := 136
abbrev mX8_begins : Nat := 137
abbrev mX8_append : Nat := 138
abbrev mX8_goOn : Nat := 139
abbrev mX8_step : Nat := 140
abbrev mX8_command : Nat := 141
abbrev mX8_isDone : Nat := 142
abbrev mX8_hasSignal : Nat := 143
abbrev mX8_isReady : Nat := 144
abbrev mX8_list : Nat := 145
abbrev mX8_turn : Nat := 146
abbrev mX8_statement : Nat := 147
abbrev mX8_patch : Nat := 148
abbrev mX8_waits : Nat := 149
abbrev mX8_stop : Nat := 150
abbrev mX8_run : Nat := 151
abbrev mX8_decide : Nat := 152
abbrev mX8_refused : Nat := 153
abbrev mX8_differs : Nat := 154
abbrev mX8_isGone : Nat := 155
abbrev mX8_happen : Nat := 156
abbrev mX8_crash : Nat := 157
abbrev mX8_clear : Nat := 158
abbrev mX8_event : Nat := 159
abbrev mX8_register : Nat := 160
abbrev mX8_total : Nat := 161
def ze_X0_wipe : zMI × Nat := ((RX0, yX0_wipe, 1, none, zc_X0_wipe, zu_X0_wipe), 410)
def ze_X0_size : zMI × Nat := ((RX0, yX0_size, 1, some .int, zc_X0_size, zu_X0_size), 418)
def ze_X0_holds : zMI × Nat := ((RX0, yX0_holds, 2, some .boolean, zc_X0_holds, zu_X0_holds), 386)
def ze_X0_kindAt : zMI × Nat := ((RX0, yX0_kindAt, 2, some .int, zc_X0_kindAt, zu_X0_kindAt), 426)
def ze_X0_refAt : zMI × Nat := ((RX0, yX0_refAt, 2, some .int, zc_X0_refAt, zu_X0_refAt), 1004)
def ze_X0_valueAt : zMI × Nat := ((RX0, yX0_valueAt, 2, some .int, zc_X0_valueAt, zu_X0_valueAt), 919)
def ze_X0_count : zMI × Nat := ((RX0, yX0_count, 5, some .int, zc_X0_count, zu_X0_count), 422)
def ze_X0_add : zMI × Nat := ((RX0, yX0_add, 4, some .boolean, zc_X0_add, zu_X0_add), 390)
def ze_X0_addOfOthers : zMI × Nat := ((RX0, yX0_addOfOthers, 5, some .boolean, zc_X0_addOfOthers, zu_X0_addOfOthers), 374)
def ze_X0_dropDecision : zMI × Nat := ((RX0, yX0_dropDecision, 2, none, zc_X0_dropDecision, zu_X0_dropDecision), 957)
def ze_X0_decisionEnd : zMI × Nat := ((RX0, yX0_decisionEnd, 3, some .int, zc_X0_decisionEnd, zu_X0_decisionEnd), 819)
def ze_X0_isAt : zMI × Nat := ((RX0, yX0_isAt, 5, some .boolean, zc_X0_isAt, zu_X0_isAt), 899)
def ze_X0_endOf : zMI × Nat := ((RX0, yX0_endOf, 3, some .int, zc_X0_endOf, zu_X0_endOf), 915)
def ze_X0_signal : zMI × Nat := ((RX0, yX0_signal, 4, some .int, zc_X0_signal, zu_X0_signal), 935)
def ze_X0_addSignal : zMI × Nat := ((RX0, yX0_addSignal, 2, none, zc_X0_addSignal, zu_X0_addSignal), 394)
def ze_X0_fits : zMI × Nat := ((RX0, yX0_fits, 4, some .boolean, zc_X0_fits, zu_X0_fits), 378)
def ze_X0_isOpen : zMI × Nat := ((RX0, yX0_isOpen, 3, some .boolean, zc_X0_isOpen, zu_X0_isOpen), 382)
def ze_X1_wipe : zMI × Nat := ((RX1, yX1_wipe, 1, none, zc_X1_wipe, zu_X1_wipe), 606)
def ze_X1_copyFrom : zMI × Nat := ((RX1, yX1_copyFrom, 2, none, zc_X1_copyFrom, zu_X1_copyFrom), 794)
def ze_X1_size : zMI × Nat := ((RX1, yX1_size, 1, some .int, zc_X1_size, zu_X1_size), 680)
def ze_X1_statementCount : zMI × Nat := ((RX1, yX1_statementCount, 1, some .int, zc_X1_statementCount, zu_X1_statementCount), 801)
def ze_X1_add : zMI × Nat := ((RX1, yX1_add, 4, some .int, zc_X1_add, zu_X1_add), 629)
def ze_X1_addJump : zMI × Nat := ((RX1, yX1_addJump, 3, some .int, zc_X1_addJump, zu_X1_addJump), 667)
def ze_X1_addItem : zMI × Nat := ((RX1, yX1_addItem, 3, none, zc_X1_addItem, zu_X1_addItem), 657)
def ze_X1_setSort : zMI × Nat := ((RX1, yX1_setSort, 3, none, zc_X1_setSort, zu_X1_setSort), 693)
def ze_X1_setFirst : zMI × Nat := ((RX1, yX1_setFirst, 3, none, zc_X1_setFirst, zu_X1_setFirst), 672)
def ze_X1_setSecond : zMI × Nat := ((RX1, yX1_setSecond, 3, none, zc_X1_setSecond, zu_X1_setSecond), 709)
def ze_X1_sortAt : zMI × Nat := ((RX1, yX1_sortAt, 2, some .int, zc_X1_sortAt, zu_X1_sortAt), 827)
def ze_X1_targetAt : zMI × Nat := ((RX1, yX1_targetAt, 2, some .int, zc_X1_targetAt, zu_X1_targetAt), 882)
def ze_X1_firstAt : zMI × Nat := ((RX1, yX1_firstAt, 2, some .int, zc_X1_firstAt, zu_X1_firstAt), 831)
def ze_X1_secondAt : zMI × Nat := ((RX1, yX1_secondAt, 2, some .int, zc_X1_secondAt, zu_X1_secondAt), 923)
def ze_X1_firstItem : zMI × Nat := ((RX1, yX1_firstItem, 2, some .int, zc_X1_firstItem, zu_X1_firstItem), 847)
def ze_X1_itemEnd : zMI × Nat := ((RX1, yX1_itemEnd, 2, some .int, zc_X1_itemEnd, zu_X1_itemEnd), 843)
def ze_X1_itemSort : zMI × Nat := ((RX1, yX1_itemSort, 2, some .int, zc_X1_itemSort, zu_X1_itemSort), 851)
def ze_X1_itemValue : zMI × Nat := ((RX1, yX1_itemValue, 2, some .int, zc_X1_itemValue, zu_X1_itemValue), 855)
def ze_X1_holds : zMI × Nat := ((RX1, yX1_holds, 2, some .boolean, zc_X1_holds, zu_X1_holds), 676)
def ze_X2_read : zMI × Nat := ((RX2, yX2_read, 2, some .int, zc_X2_read, zu_X2_read), 602)
def ze_X2_readStatements : zMI × Nat := ((RX2, yX2_readStatements, 3, some .boolean, zc_X2_readStatements, zu_X2_readStatements), 610)
def ze_X2_isBlockEnd : zMI × Nat := ((RX2, yX2_isBlockEnd, 1, some .boolean, zc_X2_isBlockEnd, zu_X2_isBlockEnd), 617)
def ze_X2_readStatement : zMI × Nat := ((RX2, yX2_readStatement, 2, some .boolean, zc_X2_readStatement, zu_X2_readStatement), 621)
def ze_X2_readChoice : zMI × Nat := ((RX2, yX2_readChoice, 4, some .boolean, zc_X2_readChoice, zu_X2_readChoice), 625)
def ze_X2_readLoop : zMI × Nat := ((RX2, yX2_readLoop, 3, some .boolean, zc_X2_readLoop, zu_X2_readLoop), 685)
def ze_X2_readStop : zMI × Nat := ((RX2, yX2_readStop, 2, some .boolean, zc_X2_readStop, zu_X2_readStop), 718)
def ze_X2_readAssignment : zMI × Nat := ((RX2, yX2_readAssignment, 4, some .boolean, zc_X2_readAssignment, zu_X2_readAssignment), 689)
def ze_X2_readRest : zMI × Nat := ((RX2, yX2_readRest, 4, some .boolean, zc_X2_readRest, zu_X2_readRest), 697)
def ze_X2_readFirst : zMI × Nat := ((RX2, yX2_readFirst, 3, some .boolean, zc_X2_readFirst, zu_X2_readFirst), 701)
def ze_X2_readSecond : zMI × Nat := ((RX2, yX2_readSecond, 2, some .boolean, zc_X2_readSecond, zu_X2_readSecond), 705)
def ze_X2_readX : zMI × Nat := ((RX2, yX2_readX, 2, some .boolean, zc_X2_readX, zu_X2_readX), 637)
def ze_X2_readPart : zMI × Nat := ((RX2, yX2_readPart, 4, some .boolean, zc_X2_readPart, zu_X2_readPart), 641)
def ze_X2_readTerm : zMI × Nat := ((RX2, yX2_readTerm, 3, some .boolean, zc_X2_readTerm, zu_X2_readTerm), 645)
def ze_X2_readFactor : zMI × Nat := ((RX2, yX2_readFactor, 3, some .boolean, zc_X2_readFactor, zu_X2_readFactor), 649)
def ze_X3_restart : zMI × Nat := ((RX3, yX3_restart, 2, none, zc_X3_restart, zu_X3_restart), 402)
def ze_X3_copyFrom : zMI × Nat := ((RX3, yX3_copyFrom, 2, none, zc_X3_copyFrom, zu_X3_copyFrom), 952)
def ze_X3_get : zMI × Nat := ((RX3, yX3_get, 2, some .int, zc_X3_get, zu_X3_get), 867)
def ze_X3_set : zMI × Nat := ((RX3, yX3_set, 3, none, zc_X3_set, zu_X3_set), 886)
def ze_X4_catchUp : zMI × Nat := ((RX4, yX4_catchUp, 2, some .int, zc_X4_catchUp, zu_X4_catchUp), 813)
def ze_X4_addDecision : zMI × Nat := ((RX4, yX4_addDecision, 3, some .int, zc_X4_addDecision, zu_X4_addDecision), 948)
def ze_X4_runDecision : zMI × Nat := ((RX4, yX4_runDecision, 5, none, zc_X4_runDecision, zu_X4_runDecision), 823)
def ze_X4_turn : zMI × Nat := ((RX4, yX4_turn, 4, none, zc_X4_turn, zu_X4_turn), 835)
def ze_X4_finish : zMI × Nat := ((RX4, yX4_finish, 2, none, zc_X4_finish, zu_X4_finish), 878)
def ze_X4_order : zMI × Nat := ((RX4, yX4_order, 5, none, zc_X4_order, zu_X4_order), 890)
def ze_X4_stop : zMI × Nat := ((RX4, yX4_stop, 2, none, zc_X4_stop, zu_X4_stop), 943)
def ze_X4_patch : zMI × Nat := ((RX4, yX4_patch, 3, none, zc_X4_patch, zu_X4_patch), 939)
def ze_X4_want : zMI × Nat := ((RX4, yX4_want, 4, some .boolean, zc_X4_want, zu_X4_want), 894)
def ze_X4_differ : zMI × Nat := ((RX4, yX4_differ, 1, none, zc_X4_differ, zu_X4_differ), 903)
def ze_X4_waitFor : zMI × Nat := ((RX4, yX4_waitFor, 3, none, zc_X4_waitFor, zu_X4_waitFor), 907)
def ze_X4_waitForAny : zMI × Nat := ((RX4, yX4_waitForAny, 3, none, zc_X4_waitForAny, zu_X4_waitForAny), 927)
def ze_X4_takeSignal : zMI × Nat := ((RX4, yX4_takeSignal, 2, none, zc_X4_takeSignal, zu_X4_takeSignal), 931)
def ze_X4_endOf : zMI × Nat := ((RX4, yX4_endOf, 3, some .int, zc_X4_endOf, zu_X4_endOf), 911)
def ze_X4_workOut : zMI × Nat := ((RX4, yX4_workOut, 3, some .int, zc_X4_workOut, zu_X4_workOut), 839)
def ze_X4_work : zMI × Nat := ((RX4, yX4_work, 5, none, zc_X4_work, zu_X4_work), 859)
def ze_X4_join : zMI × Nat := ((RX4, yX4_join, 3, some .int, zc_X4_join, zu_X4_join), 874)
def ze_X4_push : zMI × Nat := ((RX4, yX4_push, 2, none, zc_X4_push, zu_X4_push), 863)
def ze_X4_pop : zMI × Nat := ((RX4, yX4_pop, 1, some .int, zc_X4_pop, zu_X4_pop), 871)
def ze_X5_put : zMI × Nat := ((RX5, yX5_put, 6, some .boolean, zc_X5_put, zu_X5_put), 351)
def ze_X5_wipe : zMI × Nat := ((RX5, yX5_wipe, 1, none, zc_X5_wipe, zu_X5_wipe), 598)
def ze_X5_length : zMI × Nat := ((RX5, yX5_length, 1, some .int, zc_X5_length, zu_X5_length), 442)
def ze_X5_at : zMI × Nat := ((RX5, yX5_at, 2, some .int, zc_X5_at, zu_X5_at), 449)
def ze_X5_byteOf : zMI × Nat := ((RX5, yX5_byteOf, 3, some .int, zc_X5_byteOf, zu_X5_byteOf), 354)
def ze_X6_scan : zMI × Nat := ((RX6, yX6_scan, 3, none, zc_X6_scan, zu_X6_scan), 438)
def ze_X6_kind : zMI × Nat := ((RX6, yX6_kind, 1, some .int, zc_X6_kind, zu_X6_kind), 614)
def ze_X6_place : zMI × Nat := ((RX6, yX6_place, 1, some .int, zc_X6_place, zu_X6_place), 722)
def ze_X6_value : zMI × Nat := ((RX6, yX6_value, 1, some .int, zc_X6_value, zu_X6_value), 653)
def ze_X6_skip : zMI × Nat := ((RX6, yX6_skip, 1, none, zc_X6_skip, zu_X6_skip), 633)
def ze_X6_take : zMI × Nat := ((RX6, yX6_take, 3, some .boolean, zc_X6_take, zu_X6_take), 661)
def ze_X6_isWord : zMI × Nat := ((RX6, yX6_isWord, 2, some .boolean, zc_X6_isWord, zu_X6_isWord), 713)
def ze_X6_add : zMI × Nat := ((RX6, yX6_add, 4, none, zc_X6_add, zu_X6_add), 467)
def ze_X6_addFrom : zMI × Nat := ((RX6, yX6_addFrom, 4, none, zc_X6_addFrom, zu_X6_addFrom), 459)
def ze_X6_addName : zMI × Nat := ((RX6, yX6_addName, 6, none, zc_X6_addName, zu_X6_addName), 463)
def ze_X6_addNumber : zMI × Nat := ((RX6, yX6_addNumber, 5, none, zc_X6_addNumber, zu_X6_addNumber), 534)
def ze_X6_isStart : zMI × Nat := ((RX6, yX6_isStart, 4, some .boolean, zc_X6_isStart, zu_X6_isStart), 445)
def ze_X6_isLetter : zMI × Nat := ((RX6, yX6_isLetter, 1, some .boolean, zc_X6_isLetter, zu_X6_isLetter), 452)
def ze_X6_isDigit : zMI × Nat := ((RX6, yX6_isDigit, 1, some .boolean, zc_X6_isDigit, zu_X6_isDigit), 455)
def ze_X6_sortOfWord : zMI × Nat := ((RX6, yX6_sortOfWord, 3, some .int, zc_X6_sortOfWord, zu_X6_sortOfWord), 470)
def ze_X6_spells : zMI × Nat := ((RX6, yX6_spells, 5, some .boolean, zc_X6_spells, zu_X6_spells), 474)
def ze_X7_type : zMI × Nat := ((RX7, yX7_type, 4, some .boolean, zc_X7_type, zu_X7_type), 347)
def ze_X7_program : zMI × Nat := ((RX7, yX7_program, 1, some .int, zc_X7_program, zu_X7_program), 434)
def ze_X7_fault : zMI × Nat := ((RX7, yX7_fault, 1, some .int, zc_X7_fault, zu_X7_fault), 358)
def ze_X7_decide : zMI × Nat := ((RX7, yX7_decide, 3, some .int, zc_X7_decide, zu_X7_decide), 809)
def ze_X7_refused : zMI × Nat := ((RX7, yX7_refused, 1, some .int, zc_X7_refused, zu_X7_refused), 362)
def ze_X7_differs : zMI × Nat := ((RX7, yX7_differs, 1, some .int, zc_X7_differs, zu_X7_differs), 366)
def ze_X7_happen : zMI × Nat := ((RX7, yX7_happen, 4, some .boolean, zc_X7_happen, zu_X7_happen), 370)
def ze_X7_crash : zMI × Nat := ((RX7, yX7_crash, 1, none, zc_X7_crash, zu_X7_crash), 398)
def ze_X7_clear : zMI × Nat := ((RX7, yX7_clear, 1, none, zc_X7_clear, zu_X7_clear), 406)
def ze_X7_event : zMI × Nat := ((RX7, yX7_event, 3, some .int, zc_X7_event, zu_X7_event), 982)
def ze_X7_register : zMI × Nat := ((RX7, yX7_register, 2, some .int, zc_X7_register, zu_X7_register), 1012)
def ze_X7_total : zMI × Nat := ((RX7, yX7_total, 2, some .int, zc_X7_total, zu_X7_total), 414)
def ze_X8_thrown : zMI × Nat := ((RX8, yX8_thrown, 1, some .int, zc_X8_thrown, zu_X8_thrown), 1160)
def ze_X8_raise : zMI × Nat := ((RX8, yX8_raise, 2, some .int, zc_X8_raise, zu_X8_raise), 1261)
def ze_X8_type : zMI × Nat := ((RX8, yX8_type, 6, some .boolean, zc_X8_type, zu_X8_type), 1164)
def ze_X8_see : zMI × Nat := ((RX8, yX8_see, 2, some .int, zc_X8_see, zu_X8_see), 1180)
def ze_X8_isDigit : zMI × Nat := ((RX8, yX8_isDigit, 1, some .boolean, zc_X8_isDigit, zu_X8_isDigit), 1176)
def ze_X8_isLetter : zMI × Nat := ((RX8, yX8_isLetter, 1, some .boolean, zc_X8_isLetter, zu_X8_isLetter), 1187)
def ze_X8_isSign : zMI × Nat := ((RX8, yX8_isSign, 1, some .boolean, zc_X8_isSign, zu_X8_isSign), 1197)
def ze_X8_token : zMI × Nat := ((RX8, yX8_token, 4, none, zc_X8_token, zu_X8_token), 1184)
def ze_X8_spelt : zMI × Nat := ((RX8, yX8_spelt, 4, some .int, zc_X8_spelt, zu_X8_spelt), 1194)
def ze_X8_nameOf : zMI × Nat := ((RX8, yX8_nameOf, 5, some .int, zc_X8_nameOf, zu_X8_nameOf), 1191)
def ze_X8_tokenize : zMI × Nat := ((RX8, yX8_tokenize, 5, none, zc_X8_tokenize, zu_X8_tokenize), 1173)
def ze_X8_refuse : zMI × Nat := ((RX8, yX8_refuse, 1, some .boolean, zc_X8_refuse, zu_X8_refuse), 1221)
def ze_X8_is : zMI × Nat := ((RX8, yX8_is, 2, some .boolean, zc_X8_is, zu_X8_is), 1205)
def ze_X8_takes : zMI × Nat := ((RX8, yX8_takes, 3, some .boolean, zc_X8_takes, zu_X8_takes), 1249)
def ze_X8_want : zMI × Nat := ((RX8, yX8_want, 2, some .boolean, zc_X8_want, zu_X8_want), 1245)
def ze_X8_deeper : zMI × Nat := ((RX8, yX8_deeper, 1, some .boolean, zc_X8_deeper, zu_X8_deeper), 1217)
def ze_X8_node : zMI × Nat := ((RX8, yX8_node, 6, some .int, zc_X8_node, zu_X8_node), 1241)
def ze_X8_readX : zMI × Nat := ((RX8, yX8_readX, 2, some .boolean, zc_X8_readX, zu_X8_readX), 1225)
def ze_X8_readSum : zMI × Nat := ((RX8, yX8_readSum, 3, some .boolean, zc_X8_readSum, zu_X8_readSum), 1229)
def ze_X8_readTerm : zMI × Nat := ((RX8, yX8_readTerm, 2, some .boolean, zc_X8_readTerm, zu_X8_readTerm), 1233)
def ze_X8_readFactor : zMI × Nat := ((RX8, yX8_readFactor, 2, some .boolean, zc_X8_readFactor, zu_X8_readFactor), 1237)
def ze_X8_readRegister : zMI × Nat := ((RX8, yX8_readRegister, 1, some .boolean, zc_X8_readRegister, zu_X8_readRegister), 1253)
def ze_X8_readNumber : zMI × Nat := ((RX8, yX8_readNumber, 1, some .boolean, zc_X8_readNumber, zu_X8_readNumber), 1257)
def ze_X8_readList : zMI × Nat := ((RX8, yX8_readList, 3, some .boolean, zc_X8_readList, zu_X8_readList), 1201)
def ze_X8_readStatement : zMI × Nat := ((RX8, yX8_readStatement, 5, some .boolean, zc_X8_readStatement, zu_X8_readStatement), 1209)
def ze_X8_readTurn : zMI × Nat := ((RX8, yX8_readTurn, 5, some .boolean, zc_X8_readTurn, zu_X8_readTurn), 1213)
def ze_X8_program : zMI × Nat := ((RX8, yX8_program, 2, some .int, zc_X8_program, zu_X8_program), 1169)
def ze_X8_fault : zMI × Nat := ((RX8, yX8_fault, 1, some .int, zc_X8_fault, zu_X8_fault), 1265)
def ze_X8_work : zMI × Nat := ((RX8, yX8_work, 2, some .int, zc_X8_work, zu_X8_work), 1297)
def ze_X8_isCommand : zMI × Nat := ((RX8, yX8_isCommand, 2, some .boolean, zc_X8_isCommand, zu_X8_isCommand), 1313)
def ze_X8_begins : zMI × Nat := ((RX8, yX8_begins, 1, none, zc_X8_begins, zu_X8_begins), 1277)
def ze_X8_append : zMI × Nat := ((RX8, yX8_append, 4, none, zc_X8_append, zu_X8_append), 1281)
def ze_X8_goOn : zMI × Nat := ((RX8, yX8_goOn, 1, none, zc_X8_goOn, zu_X8_goOn), 1317)
def ze_X8_step : zMI × Nat := ((RX8, yX8_step, 1, some .boolean, zc_X8_step, zu_X8_step), 1293)
def ze_X8_command : zMI × Nat := ((RX8, yX8_command, 4, some .int, zc_X8_command, zu_X8_command), 1309)
def ze_X8_isDone : zMI × Nat := ((RX8, yX8_isDone, 3, some .boolean, zc_X8_isDone, zu_X8_isDone), 1325)
def ze_X8_hasSignal : zMI × Nat := ((RX8, yX8_hasSignal, 3, some .boolean, zc_X8_hasSignal, zu_X8_hasSignal), 1337)
def ze_X8_isReady : zMI × Nat := ((RX8, yX8_isReady, 3, some .boolean, zc_X8_isReady, zu_X8_isReady), 1333)
def ze_X8_list : zMI × Nat := ((RX8, yX8_list, 3, none, zc_X8_list, zu_X8_list), 1285)
def ze_X8_turn : zMI × Nat := ((RX8, yX8_turn, 2, none, zc_X8_turn, zu_X8_turn), 1289)
def ze_X8_statement : zMI × Nat := ((RX8, yX8_statement, 3, none, zc_X8_statement, zu_X8_statement), 1301)
def ze_X8_patch : zMI × Nat := ((RX8, yX8_patch, 3, none, zc_X8_patch, zu_X8_patch), 1321)
def ze_X8_waits : zMI × Nat := ((RX8, yX8_waits, 3, none, zc_X8_waits, zu_X8_waits), 1329)
def ze_X8_stop : zMI × Nat := ((RX8, yX8_stop, 2, none, zc_X8_stop, zu_X8_stop), 1305)
def ze_X8_run : zMI × Nat := ((RX8, yX8_run, 2, none, zc_X8_run, zu_X8_run), 1273)
def ze_X8_decide : zMI × Nat := ((RX8, yX8_decide, 4, some .int, zc_X8_decide, zu_X8_decide), 1269)
def ze_X8_refused : zMI × Nat := ((RX8, yX8_refused, 1, some .int, zc_X8_refused, zu_X8_refused), 1341)
def ze_X8_differs : zMI × Nat := ((RX8, yX8_differs, 1, some .int, zc_X8_differs, zu_X8_differs), 1345)
def ze_X8_isGone : zMI × Nat := ((RX8, yX8_isGone, 3, some .boolean, zc_X8_isGone, zu_X8_isGone), 1353)
def ze_X8_happen : zMI × Nat := ((RX8, yX8_happen, 5, some .boolean, zc_X8_happen, zu_X8_happen), 1349)
def ze_X8_crash : zMI × Nat := ((RX8, yX8_crash, 1, none, zc_X8_crash, zu_X8_crash), 1357)
def ze_X8_clear : zMI × Nat := ((RX8, yX8_clear, 2, none, zc_X8_clear, zu_X8_clear), 1361)
def ze_X8_event : zMI × Nat := ((RX8, yX8_event, 3, some .int, zc_X8_event, zu_X8_event), 1365)
def ze_X8_register : zMI × Nat := ((RX8, yX8_register, 2, some .int, zc_X8_register, zu_X8_register), 1369)
def ze_X8_total : zMI × Nat := ((RX8, yX8_total, 5, some .int, zc_X8_total, zu_X8_total), 1373)
def zMT_0 : List (zMI × Nat) := [ze_X0_wipe, ze_X0_size, ze_X0_holds, ze_X0_kindAt, ze_X0_refAt, ze_X0_valueAt, ze_X0_count, ze_X0_add, ze_X0_addOfOthers, ze_X0_dropDecision, ze_X0_decisionEnd, ze_X0_isAt, ze_X0_endOf, ze_X0_signal, ze_X0_addSignal, ze_X0_fits, ze_X0_isOpen, ze_X1_wipe, ze_X1_copyFrom, ze_X1_size]
def zMT_1 : List (zMI × Nat) := [ze_X1_statementCount, ze_X1_add, ze_X1_addJump, ze_X1_addItem, ze_X1_setSort, ze_X1_setFirst, ze_X1_setSecond, ze_X1_sortAt, ze_X1_targetAt, ze_X1_firstAt, ze_X1_secondAt, ze_X1_firstItem, ze_X1_itemEnd, ze_X1_itemSort, ze_X1_itemValue, ze_X1_holds, ze_X2_read, ze_X2_readStatements, ze_X2_isBlockEnd, ze_X2_readStatement]
def zMT_2 : List (zMI × Nat) := [ze_X2_readChoice, ze_X2_readLoop, ze_X2_readStop, ze_X2_readAssignment, ze_X2_readRest, ze_X2_readFirst, ze_X2_readSecond, ze_X2_readX, ze_X2_readPart, ze_X2_readTerm, ze_X2_readFactor, ze_X3_restart, ze_X3_copyFrom, ze_X3_get, ze_X3_set, ze_X4_catchUp, ze_X4_addDecision, ze_X4_runDecision, ze_X4_turn, ze_X4_finish]
def zMT_3 : List (zMI × Nat) := [ze_X4_order, ze_X4_stop, ze_X4_patch, ze_X4_want, ze_X4_differ, ze_X4_waitFor, ze_X4_waitForAny, ze_X4_takeSignal, ze_X4_endOf, ze_X4_workOut, ze_X4_work, ze_X4_join, ze_X4_push, ze_X4_pop, ze_X5_put, ze_X5_wipe, ze_X5_length, ze_X5_at, ze_X5_byteOf, ze_X6_scan]
def zMT_4 : List (zMI × Nat) := [ze_X6_kind, ze_X6_place, ze_X6_value, ze_X6_skip, ze_X6_take, ze_X6_isWord, ze_X6_add, ze_X6_addFrom, ze_X6_addName, ze_X6_addNumber, ze_X6_isStart, ze_X6_isLetter, ze_X6_isDigit, ze_X6_sortOfWord, ze_X6_spells, ze_X7_type, ze_X7_program, ze_X7_fault, ze_X7_decide, ze_X7_refused]
def zMT_5 : List (zMI × Nat) := [ze_X7_differs, ze_X7_happen, ze_X7_crash, ze_X7_clear, ze_X7_event, ze_X7_register, ze_X7_total, ze_X8_thrown, ze_X8_raise, ze_X8_type, ze_X8_see, ze_X8_isDigit, ze_X8_isLetter, ze_X8_isSign, ze_X8_token, ze_X8_spelt, ze_X8_nameOf, ze_X8_tokenize, ze_X8_refuse, ze_X8_is]
def zMT_6 : List (zMI × Nat) := [ze_X8_takes, ze_X8_want, ze_X8_deeper, ze_X8_node, ze_X8_readX, ze_X8_readSum, ze_X8_readTerm, ze_X8_readFactor, ze_X8_readRegister, ze_X8_readNumber, ze_X8_readList, ze_X8_readStatement, ze_X8_readTurn, ze_X8_program, ze_X8_fault, ze_X8_work, ze_X8_isCommand, ze_X8_begins, ze_X8_append, ze_X8_goOn]
def zMT_7 : List (zMI × Nat) := [ze_X8_step, ze_X8_command, ze_X8_isDone, ze_X8_hasSignal, ze_X8_isReady, ze_X8_list, ze_X8_turn, ze_X8_statement, ze_X8_patch, ze_X8_waits, ze_X8_stop, ze_X8_run, ze_X8_decide, ze_X8_refused, ze_X8_differs, ze_X8_isGone, ze_X8_happen, ze_X8_crash, ze_X8_clear, ze_X8_event]
def zMT_8 : List (zMI × Nat) := [ze_X8_register, ze_X8_total]
def zMT : List (zMI × Nat) := zMT_0 ++ (zMT_1 ++ (zMT_2 ++ (zMT_3 ++ (zMT_4 ++ (zMT_5 ++ (zMT_6 ++ (zMT_7 ++ (zMT_8))))))))
/-- the String constants' entries; the calls of String's own methods: 0 length, 1 charAt, 2 indexOf -/
def zSI : List Nat := [83, 89, 91, 93, 95, 97, 99, 101, 103, 72]
def zSC : List (Nat × Nat) := [(2, 74), (0, 105), (1, 106)]
/-- places in lw_tbl of the links, the calls, the codes -/
def zFLx : List Nat := [205, 206, 200, 201, 202, 203, 204, 157, 158, 159, 150, 151, 152, 153, 154, 155, 156, 188, 187, 228, 229, 231, 234, 237, 239, 265, 238, 264, 274, 240, 266, 269, 270, 271, 272, 273, 235, 263, 230, 275, 233, 268, 267, 114, 113, 130, 131, 127, 128, 129, 304, 305, 308, 314, 307, 306, 313, 310, 309, 312, 315, 276, 316, 311, 241, 236, 232, 1021, 1023, 1022, 1026, 1025, 1027, 1028, 1029, 1024, 1030, 1031, 1034, 1036, 1037, 1038, 1039, 1040, 1062, 1063, 1064, 1035, 1033, 1032, 1051, 1041, 1042, 1052, 1055, 1053, 1056, 1060, 1043, 1044, 1054, 1061, 1057, 1059, 1065, 1058, 1050, 1049, 1045, 1046, 1047, 1048]
def zMLx : List (Nat × Nat × Nat × Nat) := [(383, 384, 385, 82), (423, 424, 425, 82), (375, 377, 0, 82), (387, 388, 389, 82), (391, 393, 2, 82), (379, 381, 1, 82), (668, 627, 628, 80), (669, 670, 671, 80), (673, 675, 14, 80), (603, 604, 605, 80), (607, 609, 7, 81), (611, 612, 613, 79), (719, 720, 721, 79), (615, 616, 0, 81), (618, 620, 8, 81), (622, 624, 9, 81), (682, 684, 15, 81), (686, 688, 16, 81), (658, 659, 660, 79), (710, 711, 712, 79), (715, 717, 20, 81), (626, 627, 628, 80), (630, 631, 632, 79), (634, 636, 10, 81), (664, 665, 666, 80), (677, 678, 679, 80), (681, 670, 671, 80), (650, 651, 652, 79), (690, 691, 692, 80), (694, 696, 17, 81), (698, 700, 18, 81), (702, 704, 19, 81), (706, 707, 708, 80), (638, 640, 11, 81), (654, 655, 656, 80), (642, 644, 12, 81), (646, 648, 13, 81), (814, 416, 417, 82), (815, 424, 425, 82), (816, 817, 818, 82), (820, 822, 22, 84), (944, 400, 401, 83), (895, 388, 389, 82), (949, 950, 951, 83), (954, 955, 956, 82), (824, 825, 826, 80), (828, 829, 830, 80), (832, 834, 23, 84), (900, 902, 31, 84), (836, 838, 24, 84), (875, 877, 28, 84), (887, 889, 29, 84), (864, 865, 866, 83), (904, 906, 32, 84), (920, 921, 922, 80), (924, 926, 34, 84), (908, 910, 33, 84), (928, 930, 35, 84), (916, 917, 918, 82), (936, 938, 36, 84), (940, 942, 37, 84), (879, 880, 881, 80), (883, 884, 885, 83), (891, 893, 30, 84), (896, 897, 898, 82), (932, 933, 934, 82), (912, 913, 914, 82), (840, 841, 842, 80), (844, 845, 846, 80), (848, 849, 850, 80), (852, 853, 854, 80), (856, 858, 25, 84), (868, 870, 27, 84), (860, 862, 26, 84), (872, 873, 0, 84), (352, 353, 0, 78), (439, 440, 441, 78), (443, 444, 0, 79), (456, 458, 3, 79), (464, 466, 5, 79), (662, 612, 613, 79), (663, 631, 632, 79), (714, 651, 652, 79), (446, 447, 448, 78), (450, 451, 0, 79), (460, 462, 4, 79), (453, 454, 0, 79), (531, 533, 6, 79), (468, 469, 0, 79), (472, 473, 0, 79), (348, 349, 350, 78), (435, 436, 437, 79), (595, 596, 597, 78), (599, 600, 601, 81), (791, 792, 793, 80), (399, 400, 401, 83), (798, 799, 800, 80), (415, 416, 417, 82), (810, 811, 812, 84), (945, 946, 947, 84), (974, 950, 951, 83), (371, 372, 373, 82), (407, 408, 409, 82), (983, 384, 385, 82), (1000, 424, 425, 82), (1001, 1002, 1003, 82), (1005, 917, 918, 82), (1014, 865, 866, 83), (419, 420, 421, 82), (1192, 1193, 0, 85), (1174, 1175, 0, 85), (1177, 1179, 39, 85), (1181, 1183, 40, 85), (1185, 1186, 0, 85), (1188, 1190, 41, 85), (1195, 1196, 0, 85), (1202, 1204, 43, 85), (1246, 1248, 54, 85), (1218, 1220, 47, 85), (1226, 1228, 49, 85), (1238, 1240, 52, 85), (1230, 1232, 50, 85), (1234, 1236, 51, 85), (1214, 1216, 46, 85), (1222, 1224, 48, 85), (1242, 1244, 53, 85), (1206, 1208, 44, 85), (1210, 1212, 45, 85), (1250, 1252, 55, 85), (1254, 1256, 56, 85), (1198, 1200, 42, 85), (1170, 1172, 38, 85), (1258, 1260, 57, 85), (1294, 1296, 64, 85), (1278, 1280, 60, 85), (1310, 1312, 68, 85), (1274, 1276, 59, 85), (1322, 1324, 71, 85), (1334, 1336, 74, 85), (1286, 1288, 62, 85), (1290, 1292, 63, 85), (1298, 1300, 65, 85), (1282, 1284, 61, 85), (1302, 1304, 66, 85), (1306, 1308, 67, 85), (1318, 1320, 70, 85), (1326, 1328, 72, 85), (1330, 1332, 73, 85), (1314, 1316, 69, 85), (1270, 1272, 58, 85), (1350, 1352, 75, 85)]
end
section
-- a small machine over the image: what a method does, as a function of numbers
def zset (σ : zS) (c : Nat) (f : Nat → Int32) : zS := fun d => if d = c then f else σ d
def zcat (v : zV) : Nat := match v with
  | .inr (.inl _) => 2
  | _ => 1
def zden (a : Nat → Nat) (v : zV) : Value := match v with
  | .inl x => .int x
  | .inr (.inl x) => .long x
  | .inr (.inr c) => .ref (a c)
def zget : List (Nat × zV) → Nat → Option zV
  | [], _ => none
  | (j, v) :: r, i => if j = i then some v else zget r i
def zpick (L : List (Nat × zV)) : List Nat → Option (List zV)
  | [] => some []
  | i :: r => match zget L i with
    | none => none
    | some v => match zpick L r with
      | none => none
      | some vs => some (v :: vs)
def zput (L : List (Nat × zV)) (i : Nat) (v : zV) : List (Nat × zV) := (i, v) :: L.filter (fun q => !(q.1 == i) && !(q.1 + 1 == i && zcat q.2 == 2))
def zlook {α : Type} : List (Nat × α) → Nat → Option α
  | [], _ => none
  | (j, v) :: r, i => if j = i then some v else zlook r i
abbrev zbin (y : Nat) (a b : Int32) : Int32 := match y with
  | 0 => a + b
  | 1 => a - b
  | 2 => a * b
  | 3 => a &&& b
  | 4 => a ||| b
  | _ => a <<< (b &&& 31)
abbrev zun (y : Nat) (a : Int32) : Int32 := match y with
  | 0 => -a
  | _ => (a.toUInt32 % 65536).toInt32
def zsw {α : Type} (v : Int32) (k : Nat → α) (d : Nat) : List (Int32 × Nat) → α
  | [] => k d
  | (x, t) :: r => if v = x then k t else zsw v k d r
def zfld (σ : zS) (c ci k : Nat) : Option zV := match zIMG[c]? with
  | some (.inl (cj, fl)) => if cj = ci then (match fl[k]? with
    | some none => some (.inl (σ c k))
    | some (some t) => some (.inr (.inr t))
    | none => none) else none
  | _ => none
def zwr (c ci k : Nat) : Bool := match zIMG[c]? with
  | some (.inl (cj, fl)) => cj == ci && fl[k]? == some none
  | _ => false
def zarr (c ty : Nat) : Option Nat := match zIMG[c]? with
  | some (.inr (t, n)) => if t = ty then some n else none
  | _ => none
def zcls (c ci : Nat) : Bool := match zIMG[c]? with
  | some (.inl (cj, _)) => cj == ci
  | _ => false
/-- the String constants of the tokens -/
def zstr (i : Nat) : List Int32 := match i with
  | 0 => [97, 99, 116]
  | 1 => [116, 105, 109, 101, 114]
  | 2 => [97, 110, 121]
  | 3 => [101, 110, 100, 101, 100]
  | 4 => [115, 105, 103]
  | 5 => [110, 111, 119]
  | 6 => [112, 97, 116, 99, 104]
  | 7 => [115, 116, 111, 112]
  | 8 => [119, 97, 105, 116]
  | _ => [59, 61, 43, 45, 42, 60, 40, 41, 63, 91, 93, 124, 44, 64]
def zixF (c : Int32) : List Int32 → Int32 → Int32
  | [], _ => -1
  | b :: l, k => if b = c then k else zixF c l (k + 1)
abbrev zGo : Type := Nat → List (Nat × zV) → List zV → zS → Option zR
abbrev zCall : Type := Nat → List zV → zS → Option zR
def zrecv (sw : List (Int32 × Nat)) (as : List zV) : Bool := match sw, as with
  | [], _ => true
  | (_, ci) :: _, .inr (.inr c) :: _ => zcls c ci
  | _, _ => false
def zbV (o : Option zR) (k : zS → Option zR) : Option zR := match o with
  | some (0, _, σ') => k σ'
  | _ => none
def zbI (o : Option zR) (k : Int32 → zS → Option zR) : Option zR := match o with
  | some (1, r, σ') => k r σ'
  | _ => none
def zinv (call : zCall) (go : zGo) (nx x y : Nat) (sw : List (Int32 × Nat)) (L : List (Nat × zV)) (st : List zV) (σ : zS) : Option zR :=
  if st.length < y ∨ 8 < ((st.drop y).map zcat).sum then none
  else if zrecv sw (st.take y).reverse then zbI (call x (st.take y).reverse σ) (fun r σ' => go nx L (.inl r :: st.drop y) σ') else none
def zinvV (call : zCall) (go : zGo) (nx x y : Nat) (sw : List (Int32 × Nat)) (L : List (Nat × zV)) (st : List zV) (σ : zS) : Option zR :=
  if st.length < y ∨ 8 < ((st.drop y).map zcat).sum then none
  else if zrecv sw (st.take y).reverse then zbV (call x (st.take y).reverse σ) (fun σ' => go nx L (st.drop y) σ') else none
def zcopy (go : zGo) (nx : Nat) (L : List (Nat × zV)) (st : List zV) (σ : zS) : Option zR := match st with
  | .inl n :: .inl dp :: .inr (.inr d) :: .inl sp :: .inr (.inr c) :: r => match zarr c 0, zarr d 0 with
    | some n0, some n1 => if sp < 0 ∨ dp < 0 ∨ n < 0 ∨ n0 < sp.toNatClampNeg + n.toNatClampNeg ∨ n1 < dp.toNatClampNeg + n.toNatClampNeg ∨ 8 < (r.map zcat).sum then none
      else go nx L r (zset σ d (va_cpy (σ c) (σ d) sp.toNatClampNeg dp.toNatClampNeg n.toNatClampNeg))
    | _, _ => none
  | _ => none
def zscall (go : zGo) (nx x : Nat) (L : List (Nat × zV)) (st : List zV) (σ : zS) : Option zR := match x, st with
  | 0, .inr (.inr c) :: r => if c < 1000 ∨ 1010 ≤ c ∨ 8 < (r.map zcat).sum then none else go nx L (.inl (Int32.ofNat (zstr (c - 1000)).length) :: r) σ
  | 1, .inl i :: .inr (.inr c) :: r => if c < 1000 ∨ 1010 ≤ c ∨ 8 < (r.map zcat).sum then none else if i < 0 ∨ (zstr (c - 1000)).length ≤ i.toNatClampNeg then none else go nx L (.inl ((zstr (c - 1000)).getD i.toNatClampNeg 0) :: r) σ
  | 2, .inl v :: .inr (.inr c) :: r => if c < 1000 ∨ 1010 ≤ c ∨ 8 < (r.map zcat).sum ∨ v < 0 ∨ 256 ≤ v then none else go nx L (.inl (zixF v (zstr (c - 1000)) 0) :: r) σ
  | _, _ => none
def zstep (call : zCall) (go : zGo) (op : zO) (L : List (Nat × zV)) (st : List zV) (σ : zS) : Option zR :=
  match op with
  | (o, nx, x, y, _, k, sw) => match o with
    | 0 => go nx L (.inl k :: st) σ
    | 1 => match zget L x with
      | some (.inl v) => go nx L (.inl v :: st) σ
      | _ => none
    | 2 => match zget L x with
      | some (.inr (.inr c)) => go nx L (.inr (.inr c) :: st) σ
      | _ => none
    | 3 => match zget L x with
      | some (.inr (.inl v)) => go nx L (.inr (.inl v) :: st) σ
      | _ => none
    | 4 => match st with
      | .inl v :: r => go nx (zput L x (.inl v)) r σ
      | _ => none
    | 6 => match zget L x with
      | some (.inl v) => go nx (zput L x (.inl (v + k))) st σ
      | _ => none
    | 7 => match st with
      | .inl b :: .inl a :: r => go nx L (.inl (zbin y a b) :: r) σ
      | _ => none
    | 8 => match st with
      | .inl a :: r => go nx L (.inl (zun y a) :: r) σ
      | _ => none
    | 9 => match y, st with
      | 0, .inl b :: .inr (.inl a) :: r => go nx L (.inr (.inl (a >>> (b.toInt64 &&& 63))) :: r) σ
      | 1, .inl b :: .inr (.inl a) :: r => go nx L (.inr (.inl ((a.toUInt64 >>> (b.toInt64.toUInt64 &&& Int64.toUInt64 63)).toInt64)) :: r) σ
      | 2, .inr (.inl b) :: .inr (.inl a) :: r => go nx L (.inr (.inl (a &&& b)) :: r) σ
      | 3, .inr (.inl a) :: r => go nx L (.inl a.toInt32 :: r) σ
      | _, _ => none
    | 12 => go x L st σ
    | 13 => match st with
      | .inl v :: r => zsw v (fun t => go t L r σ) x sw
      | _ => none
    | 14 => match st with
      | .inr (.inr c) :: r => match zfld σ c x y with
        | some v => go nx L (v :: r) σ
        | none => none
      | _ => none
    | 15 => match st with
      | .inl v :: .inr (.inr c) :: r => if zwr c x y then go nx L r (zset σ c (upd (σ c) y v)) else none
      | _ => none
    | 16 => match st with
      | .inl i :: .inr (.inr c) :: r => match zarr c y with
        | some n => if i < 0 ∨ n ≤ i.toNatClampNeg then none else go nx L (.inl (σ c i.toNatClampNeg) :: r) σ
        | none => none
      | _ => none
    | 17 => match st with
      | .inl v :: .inl i :: .inr (.inr c) :: r => match zarr c y with
        | some n => if i < 0 ∨ n ≤ i.toNatClampNeg then none else go nx L r (zset σ c (upd (σ c) i.toNatClampNeg (if y = 1 then vp_nar .char v else v)))
        | none => none
      | _ => none
    | 18 => zinv call go nx x y sw L st σ
    | 19 => match st with
      | [.inl v] => if y = 1 then (if v = 0 ∨ v = 1 then some (1, v, σ) else none) else some (1, v, σ)
      | _ => none
    | 20 => match st with
      | [] => some (0, 0, σ)
      | _ => none
    | 21 => match st with
      | v :: r => if zcat v = 1 then go nx L (v :: v :: r) σ else none
      | _ => none
    | 22 => match st with
      | v :: r => if zcat v = 1 then go nx L r σ else none
      | _ => none
    | 23 => match st with
      | v :: w :: r => if zcat v = 1 ∧ zcat w = 1 then go nx L (v :: w :: v :: w :: r) σ else none
      | _ => none
    | 24 => match st with
      | .inr (.inr c) :: r => match zarr c 0 with
        | some n => go nx L (.inl (Int32.ofNat n) :: r) σ
        | none => none
      | _ => none
    | 25 => zcopy go nx L st σ
    | 26 => go nx L (.inr (.inl k.toInt64) :: st) σ
    | 27 => if y < 10 then go nx L (.inr (.inr (1000 + y)) :: st) σ else none
    | 28 => zscall go nx x L st σ
    | 30 => zinvV call go nx x y sw L st σ
    | 31 => match st with
      | .inl v :: .inr (.inr c) :: r => if zwr c x y then (if v = 0 ∨ v = 1 then go nx L r (zset σ c (upd (σ c) y v)) else none) else none
      | _ => none
    | 32 => match st with
      | .inl a :: r => if a = 0 then go x L r σ else go nx L r σ
      | _ => none
    | 33 => match st with
      | .inl a :: r => if a < 0 then go x L r σ else go nx L r σ
      | _ => none
    | 34 => match st with
      | .inl a :: r => if 0 < a then go x L r σ else go nx L r σ
      | _ => none
    | 35 => match st with
      | .inl b :: .inl a :: r => if a = b then go x L r σ else go nx L r σ
      | _ => none
    | 36 => match st with
      | .inl b :: .inl a :: r => if a < b then go x L r σ else go nx L r σ
      | _ => none
    | 37 => match st with
      | .inl b :: .inl a :: r => if b < a then go x L r σ else go nx L r σ
      | _ => none
    | 29 => match st with
      | [] => some (2, 0, σ)
      | _ => none
    | _ => none
def zseg (tab : List (Nat × zO)) (cut : List (Nat × List Nat)) (call : zCall) (kont : Nat → List zV → zS → Option zR) : Nat → zGo
  | 0, _, _, _, _ => none
  | f + 1, pc, L, st, σ => if 10000 ≤ pc then (match st, zlook cut (pc - 10000) with
      | [], some ix => (match zpick L ix with
        | some vs => kont (pc - 10000) vs σ
        | none => none)
      | _, _ => none)
    else match zlook tab pc with
      | none => none
      | some op => zstep call (zseg tab cut call kont f) op L st σ
def zexec (tab : List (Nat × zO)) (cut : List (Nat × List Nat)) (call : zCall) : Nat → Nat → List zV → zS → Option zR
  | 0, _, _, _ => none
  | n + 1, pc, vs, σ => match zlook cut pc with
    | none => none
    | some ix => if ix.length = vs.length then zseg tab cut call (zexec tab cut call n) 400 pc (ix.zip vs) [] σ else none
def zFUEL : Nat := 1000000
/-- the locals' places of the arguments, and how many words they are -/
def zplaces : Nat → List zV → List Nat
  | _, [] => []
  | k, v :: r => k :: zplaces (if zcat v = 2 then k + 2 else k + 1) r
def zwords : List zV → Nat
  | [] => 0
  | v :: r => zcat v + zwords r
def zM : Nat → zCall
  | 0, _, _, _ => none
  | d + 1, mi, as, σ => match zMT[mi]? with
    | none => none
    | some ((_, _, n, _, tab, cut), _) => if zlook cut 0 = some (zplaces 0 as) ∧ zwords as ≤ n then zexec tab cut (zM d) zFUEL 0 as σ else none
end
section
-- what the tables say of the image: words, links, codes
def zTB : List Cond := lw_tbl.filter goodWord
def zNW : List Cond := [.fieldLinkNest RX4 100 RX3 "entry" "I" RX7, .fieldLinkNest RX7 173 RX3 "taken" "I" RX7, .fieldLinkNest RX4 168 RX3 "taken" "I" RX7, .fieldLinkNest RX4 97 RX3 "steps" "I" RX7, .fieldLinkNest RX7 170 RX3 "steps" "I" RX7, .fieldLinkNest RX4 59 RX3 "behind" "I" RX7, .fieldLinkNest RX4 82 RX3 "stopped" "Z" RX7, .fieldLinkNest RX7 167 RX3 "stopped" "Z" RX7, .fieldLinkNest RX7 120 RX4 "differsAt" "I" RX7]
def zin (i : Nat) (w : Cond) : Bool := decide (lw_tbl[i]? = some w) && goodWord w
theorem zin_mem {i : Nat} {w : Cond} (h : zin i w = true) : w ∈ zTB := by
  simp only [zin, Bool.and_eq_true, decide_eq_true_eq] at h
  exact List.mem_filter.mpr ⟨List.mem_of_getElem? h.1, h.2⟩
theorem zTB_good {w : Cond} (h : w ∈ zTB) : (w.onTables && w.keeps) = true ∨ ∃ ty, w = .arrayClass ty := good_of_word (List.mem_filter.mp h).2
/-- the words of a method: its own code, and all -/
def zws (y : MethodName) (b : ByteArray) (n : Nat) (r : Option FieldType) : List Cond := .code y b n r :: zTB
def zfl_ok (e : String × Nat × Nat × Nat × Nat) (i : Nat) : Bool := match vwCl[e.2.2.1]? with
  | some q => decide (e.2.2.2.1 < q.2.2) && (if e.2.2.2.2 = 0 then zin i (.fieldLink e.1 e.2.1 (q.2.1 e.2.2.2.1).1 (q.2.1 e.2.2.2.1).2.1 (q.2.1 e.2.2.2.1).2.2.1) else decide (Cond.fieldLinkNest e.1 e.2.1 (q.2.1 e.2.2.2.1).1 (q.2.1 e.2.2.2.1).2.1 (q.2.1 e.2.2.2.1).2.2.1 RX7 ∈ zNW))
  | none => false
set_option maxRecDepth 100000 in
theorem zfl_all : zFLT.length = zFLx.length ∧ (zFLT.zip zFLx).all (fun q => zfl_ok q.1 q.2) = true := by decide +kernel
def zml_ok (e : String × Nat × Nat × Nat × Nat × Nat) (i : Nat × Nat × Nat × Nat) : Bool := match zMT[e.2.2.1]? with
  | some ((R, y, _, _, _, _), _) => decide (y.cls = R) && decide (vwCl[e.2.2.2.2.1]?.map (fun q => q.1) = some R) && zin i.1 (.methodLink e.1 e.2.1 y) && zin i.2.2.2 (.initialized R)
      && decide ((parseMethodDescriptor y.desc).map (fun d => d.parameters.length) = some e.2.2.2.2.2)
      && (if e.2.2.2.1 = 0 then zin i.2.1 (.instanceMethod y) && zin i.2.2.1 (.selects R y y) else zin i.2.1 (.static y) && decide (e.1 = R))
  | none => false
set_option maxRecDepth 100000 in
theorem zml_all : zMLT.length = zMLx.length ∧ (zMLT.zip zMLx).all (fun q => zml_ok q.1 q.2) = true := by decide +kernel
set_option maxRecDepth 100000 in
theorem zcl_all : (∀ w ∈ wsX00, w ∈ lw_tbl) ∧ (∀ w ∈ wsX10, w ∈ lw_tbl) ∧ (∀ w ∈ wsX20, w ∈ lw_tbl) ∧ (∀ w ∈ wsX30, w ∈ lw_tbl) ∧ (∀ w ∈ wsX40, w ∈ lw_tbl) ∧ (∀ w ∈ wsX50, w ∈ lw_tbl) ∧ (∀ w ∈ wsX60, w ∈ lw_tbl) ∧ (∀ w ∈ wsX70, w ∈ lw_tbl) ∧ (∀ w ∈ wsX80, w ∈ lw_tbl) := by decide +kernel
/-- a target: where it is a cut, 10000 is added -/
def zpc (t : Nat) : Nat := if 10000 ≤ t then t - 10000 else t
/-- the op of a condition, and whether its targets are changed -/
def zcn (c : ClassFile.Cond) : Nat × Bool := match c with
  | .eq => (0, false)
  | .ne => (0, true)
  | .lt => (1, false)
  | .ge => (1, true)
  | .gt => (2, false)
  | .le => (2, true)
/-- field types of the classes -/
def zty (ci : Nat) : Nat → FieldType := match ci with
  | 0 => tyX0
  | 1 => tyX1
  | 2 => tyX2
  | 3 => tyX3
  | 4 => tyX4
  | 5 => tyX5
  | 6 => tyX6
  | 7 => tyX7
  | _ => tyX8
/-- the instruction i of length len at pc does what the op says -/
def zok (own : String) (rt : Option FieldType) (nL : Nat) (pc : Nat) (i : Instr) (len : Nat) (op : zO) : Bool := match op with
  | (o, nx, x, y, z, k, sw) => match i with
    | .iconst n => o == 0 && len == 1 && zpc nx == pc + 1 && k == Int32.ofInt n
    | .bipush n => o == 0 && len == 2 && zpc nx == pc + 2 && k == (Int8.ofInt n).toInt32
    | .sipush n => o == 0 && len == 3 && zpc nx == pc + 3 && k == (Int16.ofInt n).toInt32
    | .iload_n j => o == 1 && len == 1 && zpc nx == pc + 1 && x == j.val
    | .iload j => o == 1 && len == 2 && zpc nx == pc + 2 && x == j
    | .aload_n j => o == 2 && len == 1 && zpc nx == pc + 1 && x == j.val
    | .aload j => o == 2 && len == 2 && zpc nx == pc + 2 && x == j
    | .lload_n j => o == 3 && len == 1 && zpc nx == pc + 1 && x == j.val
    | .istore_n j => o == 4 && len == 1 && zpc nx == pc + 1 && x == j.val && decide (x < nL)
    | .istore j => o == 4 && len == 2 && zpc nx == pc + 2 && x == j && decide (x < nL)
    | .iinc j n => o == 6 && len == 3 && zpc nx == pc + 3 && x == j && k == Int32.ofInt n
    | .iadd => o == 7 && y == 0 && len == 1 && zpc nx == pc + 1
    | .isub => o == 7 && y == 1 && len == 1 && zpc nx == pc + 1
    | .imul => o == 7 && y == 2 && len == 1 && zpc nx == pc + 1
    | .iand => o == 7 && y == 3 && len == 1 && zpc nx == pc + 1
    | .ior => o == 7 && y == 4 && len == 1 && zpc nx == pc + 1
    | .ishl => o == 7 && y == 5 && len == 1 && zpc nx == pc + 1
    | .ineg => o == 8 && y == 0 && len == 1 && zpc nx == pc + 1
    | .i2c => o == 8 && y == 1 && len == 1 && zpc nx == pc + 1
    | .lshr => o == 9 && y == 0 && len == 1 && zpc nx == pc + 1
    | .lushr => o == 9 && y == 1 && len == 1 && zpc nx == pc + 1
    | .land => o == 9 && y == 2 && len == 1 && zpc nx == pc + 1
    | .l2i => o == 9 && y == 3 && len == 1 && zpc nx == pc + 1
    | .ifCond c off => o == 32 + (zcn c).1 && len == 3 && zpc (if (zcn c).2 then x else nx) == pc + 3 && decide ((pc : Int) + off = (zpc (if (zcn c).2 then nx else x) : Int))
    | .if_icmp c off => o == 35 + (zcn c).1 && len == 3 && zpc (if (zcn c).2 then x else nx) == pc + 3 && decide ((pc : Int) + off = (zpc (if (zcn c).2 then nx else x) : Int))
    | .goto off => o == 12 && len == 3 && decide ((pc : Int) + off = (zpc x : Int))
    | .tableswitch d lo hi offs => o == 13 && y == 0 && decide ((pc : Int) + d = (zpc x : Int)) && decide (hi = lo + sw.length - 1) && decide (sw.length = offs.size) && decide (-1000 < lo) && decide (hi < 1000)
        && (List.range sw.length).all (fun j => match sw[j]?, offs[j]? with
          | some q, some off => q.1 == Int32.ofInt (lo + j) && decide ((pc : Int) + off = (zpc q.2 : Int))
          | _, _ => false)
    | .lookupswitch d ps => o == 13 && y == 1 && decide ((pc : Int) + d = (zpc x : Int)) && (ps.toList.zip (ps.toList.drop 1)).all (fun (a, next) => a.1 < next.1) && decide (sw.length = ps.size)
        && (List.range sw.length).all (fun j => match sw[j]?, ps[j]? with
          | some q, some r => q.1 == Int32.ofInt r.1 && decide (-1000 < r.1) && decide (r.1 < 1000) && decide ((pc : Int) + r.2 = (zpc q.2 : Int))
          | _, _ => false)
    | .getfield idx => o == 14 && len == 3 && zpc nx == pc + 3 && (zFLT[z]? == some (own, idx, x, y, 0) || zFLT[z]? == some (own, idx, x, y, 1))
    | .putfield idx => ((o == 15 && zty x y == .int) || (o == 31 && zty x y == .boolean)) && len == 3 && zpc nx == pc + 3 && (zFLT[z]? == some (own, idx, x, y, 0) || zFLT[z]? == some (own, idx, x, y, 1)) && (match vwCl[x]? with
        | some q => (q.2.1 y).2.2.2 == false
        | none => false)
    | .iaload => o == 16 && y == 0 && len == 1 && zpc nx == pc + 1
    | .caload => o == 16 && y == 1 && len == 1 && zpc nx == pc + 1
    | .iastore => o == 17 && y == 0 && len == 1 && zpc nx == pc + 1
    | .castore => o == 17 && y == 1 && len == 1 && zpc nx == pc + 1
    | .invokevirtual idx => len == 3 && zpc nx == pc + 3 && (((o == 18 || o == 30) && (match sw with
          | [(_, ci)] => decide (1 ≤ y) && zMLT[z]? == some (own, idx, x, 0, ci, y - 1)
          | _ => false)) || (o == 28 && own == RX6 && zSC.contains (x, idx)))
    | .invokestatic idx => len == 3 && zpc nx == pc + 3 && (((o == 18 || o == 30) && sw.isEmpty && (match zMLT[z]? with
          | some (w, i, m, s, _, n) => w == own && i == idx && m == x && s == 1 && n == y
          | none => false)) || (o == 25 && ((own == RX1 && idx == 43) || (own == RX3 && idx == 32))))
    | .ireturn => o == 19 && len == 1 && ((y == 0 && rt == some .int) || (y == 1 && rt == some .boolean))
    | .return_ => o == 20 && len == 1 && rt == none
    | .dup => o == 21 && len == 1 && zpc nx == pc + 1
    | .pop => o == 22 && len == 1 && zpc nx == pc + 1
    | .dup2 => o == 23 && len == 1 && zpc nx == pc + 1
    | .arraylength => o == 24 && len == 1 && zpc nx == pc + 1
    | .ldc2_w idx => o == 26 && len == 3 && zpc nx == pc + 3 && idx == 71 && own == RX8 && k == 255
    | .ldc idx => o == 27 && len == 2 && zpc nx == pc + 2 && x == idx && (y == 99 || (own == RX6 && zSI[y]? == some idx))
    | .new idx => o == 29
    | _ => false
def zmt_ok (e : zMI × Nat) : Bool := match lw_tbl[e.2]?, e.1 with
  | some (.code y b n r), (R, y0, n0, r0, tab, _) => decide (y = y0) && n == n0 && decide (r = r0) && plainName R && decide (y.cls = R) && decide (y.cls ≠ "java/lang/invoke/MethodHandle") && decide (y.cls ≠ "java/lang/invoke/VarHandle") && decide (n ≤ 20)
      && tab.all (fun q => match decode b q.1 with
        | .ok (i, len) => decide (q.1 < 10000) && zok R r n q.1 i len q.2
        | _ => false)
  | _, _ => false
theorem zcl_good : (wsX00 ++ wsX10 ++ wsX20 ++ wsX30 ++ wsX40 ++ wsX50 ++ wsX60 ++ wsX70 ++ wsX80).all goodWord = true := by decide +kernel
theorem zcl_in : ∀ (ci : Nat) (q : vw_C), vwCl[ci]? = some q → ∀ w ∈ u_ws q.1 q.2.1 q.2.2, w ∈ zTB := by
  intro ci q hq w hw
  have hg := List.all_eq_true.mp zcl_good
  obtain ⟨h0, h1, h2, h3, h4, h5, h6, h7, h8⟩ := zcl_all
  have key : ∀ (l : List Cond), (∀ w ∈ l, w ∈ lw_tbl) → (∀ w ∈ l, goodWord w = true) → ∀ w ∈ l, w ∈ zTB := fun l a b w h => List.mem_filter.mpr ⟨a w h, b w h⟩
  match ci, hq with
  | 0, hq => cases hq; exact key _ h0 (fun w h => hg w (by simp only [List.mem_append, h, true_or, or_true])) w hw
  | 1, hq => cases hq; exact key _ h1 (fun w h => hg w (by simp only [List.mem_append, h, true_or, or_true])) w hw
  | 2, hq => cases hq; exact key _ h2 (fun w h => hg w (by simp only [List.mem_append, h, true_or, or_true])) w hw
  | 3, hq => cases hq; exact key _ h3 (fun w h => hg w (by simp only [List.mem_append, h, true_or, or_true])) w hw
  | 4, hq => cases hq; exact key _ h4 (fun w h => hg w (by simp only [List.mem_append, h, true_or, or_true])) w hw
  | 5, hq => cases hq; exact key _ h5 (fun w h => hg w (by simp only [List.mem_append, h, true_or, or_true])) w hw
  | 6, hq => cases hq; exact key _ h6 (fun w h => hg w (by simp only [List.mem_append, h, true_or, or_true])) w hw
  | 7, hq => cases hq; exact key _ h7 (fun w h => hg w (by simp only [List.mem_append, h, true_or, or_true])) w hw
  | 8, hq => cases hq; exact key _ h8 (fun w h => hg w (by simp only [List.mem_append, h, true_or, or_true])) w hw
  | n + 9, hq => simp [vwCl] at hq
theorem zcl_ty : ∀ (ci : Nat) (q : vw_C), vwCl[ci]? = some q → (∀ k, k < q.2.2 → parseFieldDescriptor (q.2.1 k).2.2.1 = some (zty ci k)) ∧ ∀ a, a < q.2.2 → ∀ b, b < q.2.2 → a ≠ b → (q.2.1 a).2.1 ≠ (q.2.1 b).2.1 := by
  intro ci q hq
  match ci, hq with
  | 0, hq => cases hq; exact ⟨tyX0_ok, nmX0⟩
  | 1, hq => cases hq; exact ⟨tyX1_ok, nmX1⟩
  | 2, hq => cases hq; exact ⟨tyX2_ok, nmX2⟩
  | 3, hq => cases hq; exact ⟨tyX3_ok, nmX3⟩
  | 4, hq => cases hq; exact ⟨tyX4_ok, nmX4⟩
  | 5, hq => cases hq; exact ⟨tyX5_ok, nmX5⟩
  | 6, hq => cases hq; exact ⟨tyX6_ok, nmX6⟩
  | 7, hq => cases hq; exact ⟨tyX7_ok, nmX7⟩
  | 8, hq => cases hq; exact ⟨tyX8_ok, nmX8⟩
  | n + 9, hq => simp [vwCl] at hq
theorem zip_at {α β : Type} {l : List α} {r : List β} (hl : l.length = r.length) {P : α × β → Bool} (h : (l.zip r).all P = true) {z : Nat} {e : α} (he : l[z]? = some e) : ∃ i, P (e, i) = true := by
  have hz := (List.getElem?_eq_some_iff.mp he).1
  have hz2 : z < r.length := hl ▸ hz
  have h1 : (e, r[z]) ∈ l.zip r := by
    have : (l.zip r)[z]? = some (e, r[z]) := by
      rw [List.getElem?_zip_eq_some]
      exact ⟨he, List.getElem?_eq_getElem hz2⟩
    exact List.mem_of_getElem? this
  exact ⟨_, List.all_eq_true.mp h _ h1⟩
theorem zfl_spec {z : Nat} {own : String} {idx ci k n : Nat} (h : zFLT[z]? = some (own, idx, ci, k, n)) : ∃ q : vw_C, vwCl[ci]? = some q ∧ k < q.2.2 ∧
    (if n = 0 then Cond.fieldLink own idx (q.2.1 k).1 (q.2.1 k).2.1 (q.2.1 k).2.2.1 ∈ zTB else Cond.fieldLinkNest own idx (q.2.1 k).1 (q.2.1 k).2.1 (q.2.1 k).2.2.1 RX7 ∈ zNW) := by
  obtain ⟨i, hi⟩ := zip_at (P := fun q => zfl_ok q.1 q.2) zfl_all.1 zfl_all.2 h
  simp only [zfl_ok] at hi
  split at hi
  · next q hq =>
    simp only [Bool.and_eq_true, decide_eq_true_eq] at hi
    refine ⟨q, hq, hi.1, ?_⟩
    split
    · next h0 => rw [if_pos h0] at hi; exact zin_mem hi.2
    · next h0 => rw [if_neg h0] at hi; exact of_decide_eq_true hi.2
  · cases hi
theorem zml_spec {z : Nat} {own : String} {idx mi st ci n : Nat} (h : zMLT[z]? = some (own, idx, mi, st, ci, n)) : ∃ (C : String) (y : MethodName) (nL : Nat) (rt : Option FieldType) (tab : List (Nat × zO)) (cut : List (Nat × List Nat)) (i : Nat),
    zMT[mi]? = some ((C, y, nL, rt, tab, cut), i) ∧ y.cls = C ∧ (∃ T N, vwCl[ci]? = some (C, T, N)) ∧ Cond.methodLink own idx y ∈ zTB ∧ Cond.initialized C ∈ zTB ∧ (parseMethodDescriptor y.desc).map (fun d => d.parameters.length) = some n ∧
    (if st = 0 then Cond.instanceMethod y ∈ zTB ∧ Cond.selects C y y ∈ zTB else Cond.static y ∈ zTB ∧ own = C) := by
  obtain ⟨i, hi⟩ := zip_at (P := fun q => zml_ok q.1 q.2) zml_all.1 zml_all.2 h
  simp only [zml_ok] at hi
  split at hi
  · next C y nL rt tab cut j hq =>
    simp only [Bool.and_eq_true, decide_eq_true_eq] at hi
    obtain ⟨⟨⟨⟨⟨h1, h2⟩, h3⟩, h4⟩, h5⟩, h6⟩ := hi
    refine ⟨C, y, nL, rt, tab, cut, j, hq, h1, ?_, zin_mem h3, zin_mem h4, h5, ?_⟩
    · cases hv : vwCl[ci]? with
      | none => rw [hv] at h2; cases h2
      | some q => rw [hv] at h2; obtain ⟨C', T, N⟩ := q; cases h2; exact ⟨T, N, rfl⟩
    · split
      · next h0 => rw [if_pos h0, Bool.and_eq_true] at h6; exact ⟨zin_mem h6.1, zin_mem h6.2⟩
      · next h0 => rw [if_neg h0, Bool.and_eq_true] at h6; exact ⟨zin_mem h6.1, of_decide_eq_true h6.2⟩
  · cases hi
/-- what a method's row says -/
theorem zmt_spec {e : zMI × Nat} (h : zmt_ok e = true) : ∃ (C : String) (y : MethodName) (n : Nat) (rt : Option FieldType) (tab : List (Nat × zO)) (cut : List (Nat × List Nat)) (i : Nat) (b : ByteArray), e = ((C, y, n, rt, tab, cut), i) ∧ lw_tbl[i]? = some (.code y b n rt) ∧ plainName y.cls = true ∧ y.cls = C ∧
    (y.cls ≠ "java/lang/invoke/MethodHandle" ∧ y.cls ≠ "java/lang/invoke/VarHandle") ∧ n ≤ 20 ∧ ∀ q ∈ tab, q.1 < 10000 ∧ ∃ j len, decode b q.1 = .ok (j, len) ∧ zok C rt n q.1 j len q.2 = true := by
  obtain ⟨⟨C, y0, n0, r0, tab, cut⟩, i⟩ := e
  simp only [zmt_ok] at h
  split at h
  · next y b n r C' y' n' r' tab' cut' hw he =>
    cases he
    simp only [Bool.and_eq_true, decide_eq_true_eq, beq_iff_eq] at h
    obtain ⟨⟨⟨⟨⟨⟨⟨⟨h1, h2⟩, h3⟩, h4⟩, h5⟩, h6⟩, h7⟩, h8⟩, h9⟩ := h
    subst h1; subst h2; subst h3
    refine ⟨_, _, _, _, _, _, _, b, rfl, hw, by rw [h5]; exact h4, h5, ⟨h6, h7⟩, h8, fun q hq => ?_⟩
    have h10 := List.all_eq_true.mp h9 q hq
    split at h10
    · next j len hd =>
      simp only [Bool.and_eq_true, decide_eq_true_eq] at h10
      exact ⟨h10.1, j, len, hd, h10.2⟩
    · cases h10
  · cases h
end
section
-- every method: its code stands in the tables, and each of its instructions is what the image says
set_option maxRecDepth 100000 in
theorem zk_X0_wipe : zmt_ok ze_X0_wipe = true := by decide +kernel
set_option maxRecDepth 100000 in
theorem zk_X0_size : zmt_ok ze_X0_size = true := by decide +kernel
set_option maxRecDepth 100000 in
theorem zk_X0_holds : zmt_ok ze_X0_holds = true := by decide +kernel
set_option maxRecDepth 100000 in
theorem zk_X0_kindAt : zmt_ok ze_X0_kindAt = true := by decide +kernel
set_option maxRecDepth 100000 in
theorem zk_X0_refAt : zmt_ok ze_X0_refAt = true := by decide +kernel
set_option maxRecDepth 100000 in
theorem zk_X0_valueAt : zmt_ok ze_X0_valueAt = true := by decide +kernel
set_option maxRecDepth 100000 in
theorem zk_X0_count : zmt_ok ze_X0_count = true := by decide +kernel
set_option maxRecDepth 100000 in
theorem zk_X0_add : zmt_ok ze_X0_add = true := by decide +kernel
set_option maxRecDepth 100000 in
theorem zk_X0_addOfOthers : zmt_ok ze_X0_addOfOthers = true := by decide +kernel
set_option maxRecDepth 100000 in
theorem zk_X0_dropDecision : zmt_ok ze_X0_dropDecision = true := by decide +kernel
set_option maxRecDepth 100000 in
theorem zk_X0_decisionEnd : zmt_ok ze_X0_decisionEnd = true := by decide +kernel
set_option maxRecDepth 100000 in
theorem zk_X0_isAt : zmt_ok ze_X0_isAt = true := by decide +kernel
set_option maxRecDepth 100000 in
theorem zk_X0_endOf : zmt_ok ze_X0_endOf = true := by decide +kernel
set_option maxRecDepth 100000 in
theorem zk_X0_signal : zmt_ok ze_X0_signal = true := by decide +kernel
set_option maxRecDepth 100000 in
theorem zk_X0_addSignal : zmt_ok ze_X0_addSignal = true := by decide +kernel
set_option maxRecDepth 100000 in
theorem zk_X0_fits : zmt_ok ze_X0_fits = true := by decide +kernel
set_option maxRecDepth 100000 in
theorem zk_X0_isOpen : zmt_ok ze_X0_isOpen = true := by decide +kernel
set_option maxRecDepth 100000 in
theorem zk_X1_wipe : zmt_ok ze_X1_wipe = true := by decide +kernel
set_option maxRecDepth 100000 in
theorem zk_X1_copyFrom : zmt_ok ze_X1_copyFrom = true := by decide +kernel
set_option maxRecDepth 100000 in
theorem zk_X1_size : zmt_ok ze_X1_size = true := by decide +kernel
set_option maxRecDepth 100000 in
theorem zk_X1_statementCount : zmt_ok ze_X1_statementCount = true := by decide +kernel
set_option maxRecDepth 100000 in
theorem zk_X1_add : zmt_ok ze_X1_add = true := by decide +kernel
set_option maxRecDepth 100000 in
theorem zk_X1_addJump : zmt_ok ze_X1_addJump = true := by decide +kernel
set_option maxRecDepth 100000 in
theorem zk_X1_addItem : zmt_ok ze_X1_addItem = true := by decide +kernel
set_option maxRecDepth 100000 in
theorem zk_X1_setSort : zmt_ok ze_X1_setSort = true := by decide +kernel
set_option maxRecDepth 100000 in
theorem zk_X1_setFirst : zmt_ok ze_X1_setFirst = true := by decide +kernel
set_option maxRecDepth 100000 in
theorem zk_X1_setSecond : zmt_ok ze_X1_setSecond = true := by decide +kernel
set_option maxRecDepth 100000 in
theorem zk_X1_sortAt : zmt_ok ze_X1_sortAt = true := by decide +kernel
set_option maxRecDepth 100000 in
theorem zk_X1_targetAt : zmt_ok ze_X1_targetAt = true := by decide +kernel
set_option maxRecDepth 100000 in
theorem zk_X1_firstAt : zmt_ok ze_X1_firstAt = true := by decide +kernel
set_option maxRecDepth 100000 in
theorem zk_X1_secondAt : zmt_ok ze_X1_secondAt = true := by decide +kernel
set_option maxRecDepth 100000 in
theorem zk_X1_firstItem : zmt_ok ze_X1_firstItem = true := by decide +kernel
set_option maxRecDepth 100000 in
theorem zk_X1_itemEnd : zmt_ok ze_X1_itemEnd = true := by decide +kernel
set_option maxRecDepth 100000 in
theorem zk_X1_itemSort : zmt_ok ze_X1_itemSort = true := by decide +kernel
set_option maxRecDepth 100000 in
theorem zk_X1_itemValue : zmt_ok ze_X1_itemValue = true := by decide +kernel
set_option maxRecDepth 100000 in
theorem zk_X1_holds : zmt_ok ze_X1_holds = true := by decide +kernel
set_option maxRecDepth 100000 in
theorem zk_X2_read : zmt_ok ze_X2_read = true := by decide +kernel
set_option maxRecDepth 100000 in
theorem zk_X2_readStatements : zmt_ok ze_X2_readStatements = true := by decide +kernel
set_option maxRecDepth 100000 in
theorem zk_X2_isBlockEnd : zmt_ok ze_X2_isBlockEnd = true := by decide +kernel
set_option maxRecDepth 100000 in
theorem zk_X2_readStatement : zmt_ok ze_X2_readStatement = true := by decide +kernel
set_option maxRecDepth 100000 in
theorem zk_X2_readChoice : zmt_ok ze_X2_readChoice = true := by decide +kernel
set_option maxRecDepth 100000 in
theorem zk_X2_readLoop : zmt_ok ze_X2_readLoop = true := by decide +kernel
set_option maxRecDepth 100000 in
theorem zk_X2_readStop : zmt_ok ze_X2_readStop = true := by decide +kernel
set_option maxRecDepth 100000 in
theorem zk_X2_readAssignment : zmt_ok ze_X2_readAssignment = true := by decide +kernel
set_option maxRecDepth 100000 in
theorem zk_X2_readRest : zmt_ok ze_X2_readRest = true := by decide +kernel
set_option maxRecDepth 100000 in
theorem zk_X2_readFirst : zmt_ok ze_X2_readFirst = true := by decide +kernel
set_option maxRecDepth 100000 in
theorem zk_X2_readSecond : zmt_ok ze_X2_readSecond = true := by decide +kernel
set_option maxRecDepth 100000 in
theorem zk_X2_readX : zmt_ok ze_X2_readX = true := by decide +kernel
set_option maxRecDepth 100000 in
theorem zk_X2_readPart : zmt_ok ze_X2_readPart = true := by decide +kernel
set_option maxRecDepth 100000 in
theorem zk_X2_readTerm : zmt_ok ze_X2_readTerm = true := by decide +kernel
set_option maxRecDepth 100000 in
theorem zk_X2_readFactor : zmt_ok ze_X2_readFactor = true := by decide +kernel
set_option maxRecDepth 100000 in
theorem zk_X3_restart : zmt_ok ze_X3_restart = true := by decide +kernel
set_option maxRecDepth 100000 in
theorem zk_X3_copyFrom : zmt_ok ze_X3_copyFrom = true := by decide +kernel
set_option maxRecDepth 100000 in
theorem zk_X3_get : zmt_ok ze_X3_get = true := by decide +kernel
set_option maxRecDepth 100000 in
theorem zk_X3_set : zmt_ok ze_X3_set = true := by decide +kernel
set_option maxRecDepth 100000 in
theorem zk_X4_catchUp : zmt_ok ze_X4_catchUp = true := by decide +kernel
set_option maxRecDepth 100000 in
theorem zk_X4_addDecision : zmt_ok ze_X4_addDecision = true := by decide +kernel
set_option maxRecDepth 100000 in
theorem zk_X4_runDecision : zmt_ok ze_X4_runDecision = true := by decide +kernel
set_option maxRecDepth 100000 in
theorem zk_X4_turn : zmt_ok ze_X4_turn = true := by decide +kernel
set_option maxRecDepth 100000 in
theorem zk_X4_finish : zmt_ok ze_X4_finish = true := by decide +kernel
set_option maxRecDepth 100000 in
theorem zk_X4_order : zmt_ok ze_X4_order = true := by decide +kernel
set_option maxRecDepth 100000 in
theorem zk_X4_stop : zmt_ok ze_X4_stop = true := by decide +kernel
set_option maxRecDepth 100000 in
theorem zk_X4_patch : zmt_ok ze_X4_patch = true := by decide +kernel
set_option maxRecDepth 100000 in
theorem zk_X4_want : zmt_ok ze_X4_want = true := by decide +kernel
set_option maxRecDepth 100000 in
theorem zk_X4_differ : zmt_ok ze_X4_differ = true := by decide +kernel
set_option maxRecDepth 100000 in
theorem zk_X4_waitFor : zmt_ok ze_X4_waitFor = true := by decide +kernel
set_option maxRecDepth 100000 in
theorem zk_X4_waitForAny : zmt_ok ze_X4_waitForAny = true := by decide +kernel
set_option maxRecDepth 100000 in
theorem zk_X4_takeSignal : zmt_ok ze_X4_takeSignal = true := by decide +kernel
set_option maxRecDepth 100000 in
theorem zk_X4_endOf : zmt_ok ze_X4_endOf = true := by decide +kernel
set_option maxRecDepth 100000 in
theorem zk_X4_workOut : zmt_ok ze_X4_workOut = true := by decide +kernel
set_option maxRecDepth 100000 in
theorem zk_X4_work : zmt_ok ze_X4_work = true := by decide +kernel
set_option maxRecDepth 100000 in
theorem zk_X4_join : zmt_ok ze_X4_join = true := by decide +kernel
set_option maxRecDepth 100000 in
theorem zk_X4_push : zmt_ok ze_X4_push = true := by decide +kernel
set_option maxRecDepth 100000 in
theorem zk_X4_pop : zmt_ok ze_X4_pop = true := by decide +kernel
set_option maxRecDepth 100000 in
theorem zk_X5_put : zmt_ok ze_X5_put = true := by decide +kernel
set_option maxRecDepth 100000 in
theorem zk_X5_wipe : zmt_ok ze_X5_wipe = true := by decide +kernel
set_option maxRecDepth 100000 in
theorem zk_X5_length : zmt_ok ze_X5_length = true := by decide +kernel
set_option maxRecDepth 100000 in
theorem zk_X5_at : zmt_ok ze_X5_at = true := by decide +kernel
set_option maxRecDepth 100000 in
theorem zk_X5_byteOf : zmt_ok ze_X5_byteOf = true := by decide +kernel
set_option maxRecDepth 100000 in
theorem zk_X6_scan : zmt_ok ze_X6_scan = true := by decide +kernel
set_option maxRecDepth 100000 in
theorem zk_X6_kind : zmt_ok ze_X6_kind = true := by decide +kernel
set_option maxRecDepth 100000 in
theorem zk_X6_place : zmt_ok ze_X6_place = true := by decide +kernel
set_option maxRecDepth 100000 in
theorem zk_X6_value : zmt_ok ze_X6_value = true := by decide +kernel
set_option maxRecDepth 100000 in
theorem zk_X6_skip : zmt_ok ze_X6_skip = true := by decide +kernel
set_option maxRecDepth 100000 in
theorem zk_X6_take : zmt_ok ze_X6_take = true := by decide +kernel
set_option maxRecDepth 100000 in
theorem zk_X6_isWord : zmt_ok ze_X6_isWord = true := by decide +kernel
set_option maxRecDepth 100000 in
theorem zk_X6_add : zmt_ok ze_X6_add = true := by decide +kernel
set_option maxRecDepth 100000 in
theorem zk_X6_addFrom : zmt_ok ze_X6_addFrom = true := by decide +kernel
set_option maxRecDepth 100000 in
theorem zk_X6_addName : zmt_ok ze_X6_addName = true := by decide +kernel
set_option maxRecDepth 100000 in
theorem zk_X6_addNumber : zmt_ok ze_X6_addNumber = true := by decide +kernel
set_option maxRecDepth 100000 in
theorem zk_X6_isStart : zmt_ok ze_X6_isStart = true := by decide +kernel
set_option maxRecDepth 100000 in
theorem zk_X6_isLetter : zmt_ok ze_X6_isLetter = true := by decide +kernel
set_option maxRecDepth 100000 in
theorem zk_X6_isDigit : zmt_ok ze_X6_isDigit = true := by decide +kernel
set_option maxRecDepth 100000 in
theorem zk_X6_sortOfWord : zmt_ok ze_X6_sortOfWord = true := by decide +kernel
set_option maxRecDepth 100000 in
theorem zk_X6_spells : zmt_ok ze_X6_spells = true := by decide +kernel
set_option maxRecDepth 100000 in
theorem zk_X7_type : zmt_ok ze_X7_type = true := by decide +kernel
set_option maxRecDepth 100000 in
theorem zk_X7_program : zmt_ok ze_X7_program = true := by decide +kernel
set_option maxRecDepth 100000 in
theorem zk_X7_fault : zmt_ok ze_X7_fault = true := by decide +kernel
set_option maxRecDepth 100000 in
theorem zk_X7_decide : zmt_ok ze_X7_decide = true := by decide +kernel
set_option maxRecDepth 100000 in
theorem zk_X7_refused : zmt_ok ze_X7_refused = true := by decide +kernel
set_option maxRecDepth 100000 in
theorem zk_X7_differs : zmt_ok ze_X7_differs = true := by decide +kernel
set_option maxRecDepth 100000 in
theorem zk_X7_happen : zmt_ok ze_X7_happen = true := by decide +kernel
set_option maxRecDepth 100000 in
theorem zk_X7_crash : zmt_ok ze_X7_crash = true := by decide +kernel
set_option maxRecDepth 100000 in
theorem zk_X7_clear : zmt_ok ze_X7_clear = true := by decide +kernel
set_option maxRecDepth 100000 in
theorem zk_X7_event : zmt_ok ze_X7_event = true := by decide +kernel
set_option maxRecDepth 100000 in
theorem zk_X7_register : zmt_ok ze_X7_register = true := by decide +kernel
set_option maxRecDepth 100000 in
theorem zk_X7_total : zmt_ok ze_X7_total = true := by decide +kernel
set_option maxRecDepth 100000 in
theorem zk_X8_thrown : zmt_ok ze_X8_thrown = true := by decide +kernel
set_option maxRecDepth 100000 in
theorem zk_X8_raise : zmt_ok ze_X8_raise = true := by decide +kernel
set_option maxRecDepth 100000 in
theorem zk_X8_type : zmt_ok ze_X8_type = true := by decide +kernel
set_option maxRecDepth 100000 in
theorem zk_X8_see : zmt_ok ze_X8_see = true := by decide +kernel
set_option maxRecDepth 100000 in
theorem zk_X8_isDigit : zmt_ok ze_X8_isDigit = true := by decide +kernel
set_option maxRecDepth 100000 in
theorem zk_X8_isLetter : zmt_ok ze_X8_isLetter = true := by decide +kernel
set_option maxRecDepth 100000 in
theorem zk_X8_isSign : zmt_ok ze_X8_isSign = true := by decide +kernel
set_option maxRecDepth 100000 in
theorem zk_X8_token : zmt_ok ze_X8_token = true := by decide +kernel
set_option maxRecDepth 100000 in
theorem zk_X8_spelt : zmt_ok ze_X8_spelt = true := by decide +kernel
set_option maxRecDepth 100000 in
theorem zk_X8_nameOf : zmt_ok ze_X8_nameOf = true := by decide +kernel
set_option maxRecDepth 100000 in
theorem zk_X8_tokenize : zmt_ok ze_X8_tokenize = true := by decide +kernel
set_option maxRecDepth 100000 in
theorem zk_X8_refuse : zmt_ok ze_X8_refuse = true := by decide +kernel
set_option maxRecDepth 100000 in
theorem zk_X8_is : zmt_ok ze_X8_is = true := by decide +kernel
set_option maxRecDepth 100000 in
theorem zk_X8_takes : zmt_ok ze_X8_takes = true := by decide +kernel
set_option maxRecDepth 100000 in
theorem zk_X8_want : zmt_ok ze_X8_want = true := by decide +kernel
set_option maxRecDepth 100000 in
theorem zk_X8_deeper : zmt_ok ze_X8_deeper = true := by decide +kernel
set_option maxRecDepth 100000 in
theorem zk_X8_node : zmt_ok ze_X8_node = true := by decide +kernel
set_option maxRecDepth 100000 in
theorem zk_X8_readX : zmt_ok ze_X8_readX = true := by decide +kernel
set_option maxRecDepth 100000 in
theorem zk_X8_readSum : zmt_ok ze_X8_readSum = true := by decide +kernel
set_option maxRecDepth 100000 in
theorem zk_X8_readTerm : zmt_ok ze_X8_readTerm = true := by decide +kernel
set_option maxRecDepth 100000 in
theorem zk_X8_readFactor : zmt_ok ze_X8_readFactor = true := by decide +kernel
set_option maxRecDepth 100000 in
theorem zk_X8_readRegister : zmt_ok ze_X8_readRegister = true := by decide +kernel
set_option maxRecDepth 100000 in
theorem zk_X8_readNumber : zmt_ok ze_X8_readNumber = true := by decide +kernel
set_option maxRecDepth 100000 in
theorem zk_X8_readList : zmt_ok ze_X8_readList = true := by decide +kernel
set_option maxRecDepth 100000 in
theorem zk_X8_readStatement : zmt_ok ze_X8_readStatement = true := by decide +kernel
set_option maxRecDepth 100000 in
theorem zk_X8_readTurn : zmt_ok ze_X8_readTurn = true := by decide +kernel
set_option maxRecDepth 100000 in
theorem zk_X8_program : zmt_ok ze_X8_program = true := by decide +kernel
set_option maxRecDepth 100000 in
theorem zk_X8_fault : zmt_ok ze_X8_fault = true := by decide +kernel
set_option maxRecDepth 100000 in
theorem zk_X8_work : zmt_ok ze_X8_work = true := by decide +kernel
set_option maxRecDepth 100000 in
theorem zk_X8_isCommand : zmt_ok ze_X8_isCommand = true := by decide +kernel
set_option maxRecDepth 100000 in
theorem zk_X8_begins : zmt_ok ze_X8_begins = true := by decide +kernel
set_option maxRecDepth 100000 in
theorem zk_X8_append : zmt_ok ze_X8_append = true := by decide +kernel
set_option maxRecDepth 100000 in
theorem zk_X8_goOn : zmt_ok ze_X8_goOn = true := by decide +kernel
set_option maxRecDepth 100000 in
theorem zk_X8_step : zmt_ok ze_X8_step = true := by decide +kernel
set_option maxRecDepth 100000 in
theorem zk_X8_command : zmt_ok ze_X8_command = true := by decide +kernel
set_option maxRecDepth 100000 in
theorem zk_X8_isDone : zmt_ok ze_X8_isDone = true := by decide +kernel
set_option maxRecDepth 100000 in
theorem zk_X8_hasSignal : zmt_ok ze_X8_hasSignal = true := by decide +kernel
set_option maxRecDepth 100000 in
theorem zk_X8_isReady : zmt_ok ze_X8_isReady = true := by decide +kernel
set_option maxRecDepth 100000 in
theorem zk_X8_list : zmt_ok ze_X8_list = true := by decide +kernel
set_option maxRecDepth 100000 in
theorem zk_X8_turn : zmt_ok ze_X8_turn = true := by decide +kernel
set_option maxRecDepth 100000 in
theorem zk_X8_statement : zmt_ok ze_X8_statement = true := by decide +kernel
set_option maxRecDepth 100000 in
theorem zk_X8_patch : zmt_ok ze_X8_patch = true := by decide +kernel
set_option maxRecDepth 100000 in
theorem zk_X8_waits : zmt_ok ze_X8_waits = true := by decide +kernel
set_option maxRecDepth 100000 in
theorem zk_X8_stop : zmt_ok ze_X8_stop = true := by decide +kernel
set_option maxRecDepth 100000 in
theorem zk_X8_run : zmt_ok ze_X8_run = true := by decide +kernel
set_option maxRecDepth 100000 in
theorem zk_X8_decide : zmt_ok ze_X8_decide = true := by decide +kernel
set_option maxRecDepth 100000 in
theorem zk_X8_refused : zmt_ok ze_X8_refused = true := by decide +kernel
set_option maxRecDepth 100000 in
theorem zk_X8_differs : zmt_ok ze_X8_differs = true := by decide +kernel
set_option maxRecDepth 100000 in
theorem zk_X8_isGone : zmt_ok ze_X8_isGone = true := by decide +kernel
set_option maxRecDepth 100000 in
theorem zk_X8_happen : zmt_ok ze_X8_happen = true := by decide +kernel
set_option maxRecDepth 100000 in
theorem zk_X8_crash : zmt_ok ze_X8_crash = true := by decide +kernel
set_option maxRecDepth 100000 in
theorem zk_X8_clear : zmt_ok ze_X8_clear = true := by decide +kernel
set_option maxRecDepth 100000 in
theorem zk_X8_event : zmt_ok ze_X8_event = true := by decide +kernel
set_option maxRecDepth 100000 in
theorem zk_X8_register : zmt_ok ze_X8_register = true := by decide +kernel
set_option maxRecDepth 100000 in
theorem zk_X8_total : zmt_ok ze_X8_total = true := by decide +kernel
theorem zk_0 : ∀ q ∈ zMT_0, zmt_ok q = true := List.forall_mem_cons.mpr ⟨zk_X0_wipe, List.forall_mem_cons.mpr ⟨zk_X0_size, List.forall_mem_cons.mpr ⟨zk_X0_holds, List.forall_mem_cons.mpr ⟨zk_X0_kindAt, List.forall_mem_cons.mpr ⟨zk_X0_refAt, List.forall_mem_cons.mpr ⟨zk_X0_valueAt, List.forall_mem_cons.mpr ⟨zk_X0_count, List.forall_mem_cons.mpr ⟨zk_X0_add, List.forall_mem_cons.mpr ⟨zk_X0_addOfOthers, List.forall_mem_cons.mpr ⟨zk_X0_dropDecision, List.forall_mem_cons.mpr ⟨zk_X0_decisionEnd, List.forall_mem_cons.mpr ⟨zk_X0_isAt, List.forall_mem_cons.mpr ⟨zk_X0_endOf, List.forall_mem_cons.mpr ⟨zk_X0_signal, List.forall_mem_cons.mpr ⟨zk_X0_addSignal, List.forall_mem_cons.mpr ⟨zk_X0_fits, List.forall_mem_cons.mpr ⟨zk_X0_isOpen, List.forall_mem_cons.mpr ⟨zk_X1_wipe, List.forall_mem_cons.mpr ⟨zk_X1_copyFrom, List.forall_mem_cons.mpr ⟨zk_X1_size, fun _ h => nomatch h⟩⟩⟩⟩⟩⟩⟩⟩⟩⟩⟩⟩⟩⟩⟩⟩⟩⟩⟩⟩
theorem zk_1 : ∀ q ∈ zMT_1, zmt_ok q = true := List.forall_mem_cons.mpr ⟨zk_X1_statementCount, List.forall_mem_cons.mpr ⟨zk_X1_add, List.forall_mem_cons.mpr ⟨zk_X1_addJump, List.forall_mem_cons.mpr ⟨zk_X1_addItem, List.forall_mem_cons.mpr ⟨zk_X1_setSort, List.forall_mem_cons.mpr ⟨zk_X1_setFirst, List.forall_mem_cons.mpr ⟨zk_X1_setSecond, List.forall_mem_cons.mpr ⟨zk_X1_sortAt, List.forall_mem_cons.mpr ⟨zk_X1_targetAt, List.forall_mem_cons.mpr ⟨zk_X1_firstAt, List.forall_mem_cons.mpr ⟨zk_X1_secondAt, List.forall_mem_cons.mpr ⟨zk_X1_firstItem, List.forall_mem_cons.mpr ⟨zk_X1_itemEnd, List.forall_mem_cons.mpr ⟨zk_X1_itemSort, List.forall_mem_cons.mpr ⟨zk_X1_itemValue, List.forall_mem_cons.mpr ⟨zk_X1_holds, List.forall_mem_cons.mpr ⟨zk_X2_read, List.forall_mem_cons.mpr ⟨zk_X2_readStatements, List.forall_mem_cons.mpr ⟨zk_X2_isBlockEnd, List.forall_mem_cons.mpr ⟨zk_X2_readStatement, fun _ h => nomatch h⟩⟩⟩⟩⟩⟩⟩⟩⟩⟩⟩⟩⟩⟩⟩⟩⟩⟩⟩⟩
theorem zk_2 : ∀ q ∈ zMT_2, zmt_ok q = true := List.forall_mem_cons.mpr ⟨zk_X2_readChoice, List.forall_mem_cons.mpr ⟨zk_X2_readLoop, List.forall_mem_cons.mpr ⟨zk_X2_readStop, List.forall_mem_cons.mpr ⟨zk_X2_readAssignment, List.forall_mem_cons.mpr ⟨zk_X2_readRest, List.forall_mem_cons.mpr ⟨zk_X2_readFirst, List.forall_mem_cons.mpr ⟨zk_X2_readSecond, List.forall_mem_cons.mpr ⟨zk_X2_readX, List.forall_mem_cons.mpr ⟨zk_X2_readPart, List.forall_mem_cons.mpr ⟨zk_X2_readTerm, List.forall_mem_cons.mpr ⟨zk_X2_readFactor, List.forall_mem_cons.mpr ⟨zk_X3_restart, List.forall_mem_cons.mpr ⟨zk_X3_copyFrom, List.forall_mem_cons.mpr ⟨zk_X3_get, List.forall_mem_cons.mpr ⟨zk_X3_set, List.forall_mem_cons.mpr ⟨zk_X4_catchUp, List.forall_mem_cons.mpr ⟨zk_X4_addDecision, List.forall_mem_cons.mpr ⟨zk_X4_runDecision, List.forall_mem_cons.mpr ⟨zk_X4_turn, List.forall_mem_cons.mpr ⟨zk_X4_finish, fun _ h => nomatch h⟩⟩⟩⟩⟩⟩⟩⟩⟩⟩⟩⟩⟩⟩⟩⟩⟩⟩⟩⟩
theorem zk_3 : ∀ q ∈ zMT_3, zmt_ok q = true := List.forall_mem_cons.mpr ⟨zk_X4_order, List.forall_mem_cons.mpr ⟨zk_X4_stop, List.forall_mem_cons.mpr ⟨zk_X4_patch, List.forall_mem_cons.mpr ⟨zk_X4_want, List.forall_mem_cons.mpr ⟨zk_X4_differ, List.forall_mem_cons.mpr ⟨zk_X4_waitFor, List.forall_mem_cons.mpr ⟨zk_X4_waitForAny, List.forall_mem_cons.mpr ⟨zk_X4_takeSignal, List.forall_mem_cons.mpr ⟨zk_X4_endOf, List.forall_mem_cons.mpr ⟨zk_X4_workOut, List.forall_mem_cons.mpr ⟨zk_X4_work, List.forall_mem_cons.mpr ⟨zk_X4_join, List.forall_mem_cons.mpr ⟨zk_X4_push, List.forall_mem_cons.mpr ⟨zk_X4_pop, List.forall_mem_cons.mpr ⟨zk_X5_put, List.forall_mem_cons.mpr ⟨zk_X5_wipe, List.forall_mem_cons.mpr ⟨zk_X5_length, List.forall_mem_cons.mpr ⟨zk_X5_at, List.forall_mem_cons.mpr ⟨zk_X5_byteOf, List.forall_mem_cons.mpr ⟨zk_X6_scan, fun _ h => nomatch h⟩⟩⟩⟩⟩⟩⟩⟩⟩⟩⟩⟩⟩⟩⟩⟩⟩⟩⟩⟩
theorem zk_4 : ∀ q ∈ zMT_4, zmt_ok q = true := List.forall_mem_cons.mpr ⟨zk_X6_kind, List.forall_mem_cons.mpr ⟨zk_X6_place, List.forall_mem_cons.mpr ⟨zk_X6_value, List.forall_mem_cons.mpr ⟨zk_X6_skip, List.forall_mem_cons.mpr ⟨zk_X6_take, List.forall_mem_cons.mpr ⟨zk_X6_isWord, List.forall_mem_cons.mpr ⟨zk_X6_add, List.forall_mem_cons.mpr ⟨zk_X6_addFrom, List.forall_mem_cons.mpr ⟨zk_X6_addName, List.forall_mem_cons.mpr ⟨zk_X6_addNumber, List.forall_mem_cons.mpr ⟨zk_X6_isStart, List.forall_mem_cons.mpr ⟨zk_X6_isLetter, List.forall_mem_cons.mpr ⟨zk_X6_isDigit, List.forall_mem_cons.mpr ⟨zk_X6_sortOfWord, List.forall_mem_cons.mpr ⟨zk_X6_spells, List.forall_mem_cons.mpr ⟨zk_X7_type, List.forall_mem_cons.mpr ⟨zk_X7_program, List.forall_mem_cons.mpr ⟨zk_X7_fault, List.forall_mem_cons.mpr ⟨zk_X7_decide, List.forall_mem_cons.mpr ⟨zk_X7_refused, fun _ h => nomatch h⟩⟩⟩⟩⟩⟩⟩⟩⟩⟩⟩⟩⟩⟩⟩⟩⟩⟩⟩⟩
theorem zk_5 : ∀ q ∈ zMT_5, zmt_ok q = true := List.forall_mem_cons.mpr ⟨zk_X7_differs, List.forall_mem_cons.mpr ⟨zk_X7_happen, List.forall_mem_cons.mpr ⟨zk_X7_crash, List.forall_mem_cons.mpr ⟨zk_X7_clear, List.forall_mem_cons.mpr ⟨zk_X7_event, List.forall_mem_cons.mpr ⟨zk_X7_register, List.forall_mem_cons.mpr ⟨zk_X7_total, List.forall_mem_cons.mpr ⟨zk_X8_thrown, List.forall_mem_cons.mpr ⟨zk_X8_raise, List.forall_mem_cons.mpr ⟨zk_X8_type, List.forall_mem_cons.mpr ⟨zk_X8_see, List.forall_mem_cons.mpr ⟨zk_X8_isDigit, List.forall_mem_cons.mpr ⟨zk_X8_isLetter, List.forall_mem_cons.mpr ⟨zk_X8_isSign, List.forall_mem_cons.mpr ⟨zk_X8_token, List.forall_mem_cons.mpr ⟨zk_X8_spelt, List.forall_mem_cons.mpr ⟨zk_X8_nameOf, List.forall_mem_cons.mpr ⟨zk_X8_tokenize, List.forall_mem_cons.mpr ⟨zk_X8_refuse, List.forall_mem_cons.mpr ⟨zk_X8_is, fun _ h => nomatch h⟩⟩⟩⟩⟩⟩⟩⟩⟩⟩⟩⟩⟩⟩⟩⟩⟩⟩⟩⟩
theorem zk_6 : ∀ q ∈ zMT_6, zmt_ok q = true := List.forall_mem_cons.mpr ⟨zk_X8_takes, List.forall_mem_cons.mpr ⟨zk_X8_want, List.forall_mem_cons.mpr ⟨zk_X8_deeper, List.forall_mem_cons.mpr ⟨zk_X8_node, List.forall_mem_cons.mpr ⟨zk_X8_readX, List.forall_mem_cons.mpr ⟨zk_X8_readSum, List.forall_mem_cons.mpr ⟨zk_X8_readTerm, List.forall_mem_cons.mpr ⟨zk_X8_readFactor, List.forall_mem_cons.mpr ⟨zk_X8_readRegister, List.forall_mem_cons.mpr ⟨zk_X8_readNumber, List.forall_mem_cons.mpr ⟨zk_X8_readList, List.forall_mem_cons.mpr ⟨zk_X8_readStatement, List.forall_mem_cons.mpr ⟨zk_X8_readTurn, List.forall_mem_cons.mpr ⟨zk_X8_program, List.forall_mem_cons.mpr ⟨zk_X8_fault, List.forall_mem_cons.mpr ⟨zk_X8_work, List.forall_mem_cons.mpr ⟨zk_X8_isCommand, List.forall_mem_cons.mpr ⟨zk_X8_begins, List.forall_mem_cons.mpr ⟨zk_X8_append, List.forall_mem_cons.mpr ⟨zk_X8_goOn, fun _ h => nomatch h⟩⟩⟩⟩⟩⟩⟩⟩⟩⟩⟩⟩⟩⟩⟩⟩⟩⟩⟩⟩
theorem zk_7 : ∀ q ∈ zMT_7, zmt_ok q = true := List.forall_mem_cons.mpr ⟨zk_X8_step, List.forall_mem_cons.mpr ⟨zk_X8_command, List.forall_mem_cons.mpr ⟨zk_X8_isDone, List.forall_mem_cons.mpr ⟨zk_X8_hasSignal, List.forall_mem_cons.mpr ⟨zk_X8_isReady, List.forall_mem_cons.mpr ⟨zk_X8_list, List.forall_mem_cons.mpr ⟨zk_X8_turn, List.forall_mem_cons.mpr ⟨zk_X8_statement, List.forall_mem_cons.mpr ⟨zk_X8_patch, List.forall_mem_cons.mpr ⟨zk_X8_waits, List.forall_mem_cons.mpr ⟨zk_X8_stop, List.forall_mem_cons.mpr ⟨zk_X8_run, List.forall_mem_cons.mpr ⟨zk_X8_decide, List.forall_mem_cons.mpr ⟨zk_X8_refused, List.forall_mem_cons.mpr ⟨zk_X8_differs, List.forall_mem_cons.mpr ⟨zk_X8_isGone, List.forall_mem_cons.mpr ⟨zk_X8_happen, List.forall_mem_cons.mpr ⟨zk_X8_crash, List.forall_mem_cons.mpr ⟨zk_X8_clear, List.forall_mem_cons.mpr ⟨zk_X8_event, fun _ h => nomatch h⟩⟩⟩⟩⟩⟩⟩⟩⟩⟩⟩⟩⟩⟩⟩⟩⟩⟩⟩⟩
theorem zk_8 : ∀ q ∈ zMT_8, zmt_ok q = true := List.forall_mem_cons.mpr ⟨zk_X8_register, List.forall_mem_cons.mpr ⟨zk_X8_total, fun _ h => nomatch h⟩⟩
theorem zk_all : ∀ q ∈ zMT, zmt_ok q = true := List.forall_mem_append.mpr ⟨zk_0, List.forall_mem_append.mpr ⟨zk_1, List.forall_mem_append.mpr ⟨zk_2, List.forall_mem_append.mpr ⟨zk_3, List.forall_mem_append.mpr ⟨zk_4, List.forall_mem_append.mpr ⟨zk_5, List.forall_mem_append.mpr ⟨zk_6, List.forall_mem_append.mpr ⟨zk_7, zk_8⟩⟩⟩⟩⟩⟩⟩⟩
end
section
-- the world that the image stands for
def zflds (a : Nat → Nat) (f : Nat → Int32) : Nat → List (Option Nat) → List Value
  | _, [] => []
  | k, none :: r => .int (f k) :: zflds a f (k + 1) r
  | k, some t :: r => .ref (a t) :: zflds a f (k + 1) r
def zcell (a : Nat → Nat) (kI kC : ClassId) (f : Nat → Int32) (i : zI) : va_E := match i with
  | .inl (ci, fl) => .inr (ci, zflds a f 0 fl)
  | .inr (ty, n) => .inl (if ty = 0 then kI else kC, n, .inl f)
def zWSf (a : Nat → Nat) (kI kC : ClassId) (σ : zS) : Nat → List zI → va_W
  | _, [] => []
  | j, i :: r => (a j, zcell a kI kC (σ j) i) :: zWSf a kI kC σ (j + 1) r
def zWS (a : Nat → Nat) (kI kC : ClassId) (σ : zS) : va_W := zWSf a kI kC σ 0 zIMG
def ztys (kI kC : ClassId) : List (ClassId × FieldType) := [(kI, .int), (kC, .char)]
def zA (a : Nat → Nat) : Nat → Prop := fun q => ∃ j, j < zIMG.length ∧ q = a j
theorem zWSf_get (a : Nat → Nat) (kI kC : ClassId) (σ : zS) : ∀ (l : List zI) (b j : Nat), (zWSf a kI kC σ b l)[j]? = (l[j]?).map (fun i => (a (b + j), zcell a kI kC (σ (b + j)) i)) := by
  intro l
  induction l with
  | nil => intro b j; simp [zWSf]
  | cons i r ih =>
    intro b j
    cases j with
    | zero => simp [zWSf]
    | succ j => simp only [zWSf, List.getElem?_cons_succ, ih, Nat.add_assoc, Nat.add_comm 1 j]
theorem zWS_get {a : Nat → Nat} {kI kC : ClassId} {σ : zS} {j : Nat} {i : zI} (h : zIMG[j]? = some i) : (zWS a kI kC σ)[j]? = some (a j, zcell a kI kC (σ j) i) := by
  rw [zWS, zWSf_get, h]; simp
theorem zWS_some {a : Nat → Nat} {kI kC : ClassId} {σ : zS} {j : Nat} {q : Nat × va_E} (h : (zWS a kI kC σ)[j]? = some q) : ∃ i, zIMG[j]? = some i ∧ q = (a j, zcell a kI kC (σ j) i) := by
  rw [zWS, zWSf_get] at h
  cases hi : zIMG[j]? with
  | none => rw [hi] at h; cases h
  | some i => rw [hi] at h; simp at h; exact ⟨i, rfl, h.symm⟩
theorem zset_self (σ : zS) (c : Nat) (f : Nat → Int32) : zset σ c f c = f := by simp [zset]
theorem zset_ne (σ : zS) {c d : Nat} (f : Nat → Int32) (h : d ≠ c) : zset σ c f d = σ d := by simp [zset, h]
theorem zWS_set {a : Nat → Nat} {kI kC : ClassId} {σ : zS} {j : Nat} {i : zI} {f : Nat → Int32} (h : zIMG[j]? = some i) : (zWS a kI kC σ).set j (a j, zcell a kI kC f i) = zWS a kI kC (zset σ j f) := by
  apply List.ext_getElem?
  intro k
  by_cases hk : k = j
  · subst hk
    rw [zWS_get h, zset_self]
    have : k < (zWS a kI kC σ).length := by
      have h2 := zWS_get (a := a) (kI := kI) (kC := kC) (σ := σ) h
      exact (List.getElem?_eq_some_iff.mp h2).1
    simp [List.getElem?_set_self, this]
  · rw [List.getElem?_set_ne (by omega), zWS, zWSf_get, zWS, zWSf_get]
    simp [zset_ne σ f hk]
theorem zflds_int {a : Nat → Nat} {f : Nat → Int32} : ∀ (fl : List (Option Nat)) (b k : Nat), fl[k]? = some none → (zflds a f b fl)[k]? = some (.int (f (b + k))) := by
  intro fl
  induction fl with
  | nil => intro b k h; simp at h
  | cons x r ih =>
    intro b k h
    cases k with
    | zero => simp at h; subst h; simp [zflds]
    | succ k =>
      simp at h
      have := ih (b + 1) k h
      cases x <;> simp [zflds, this, Nat.add_assoc, Nat.add_comm 1 k]
theorem zflds_ref {a : Nat → Nat} {f : Nat → Int32} {t : Nat} : ∀ (fl : List (Option Nat)) (b k : Nat), fl[k]? = some (some t) → (zflds a f b fl)[k]? = some (.ref (a t)) := by
  intro fl
  induction fl with
  | nil => intro b k h; simp at h
  | cons x r ih =>
    intro b k h
    cases k with
    | zero => simp at h; subst h; simp [zflds]
    | succ k =>
      simp at h
      have := ih (b + 1) k h
      cases x <;> simp [zflds, this]
theorem zflds_up {a : Nat → Nat} {f g : Nat → Int32} : ∀ (fl : List (Option Nat)) (b : Nat), (∀ k, b ≤ k → f k = g k) → zflds a f b fl = zflds a g b fl := by
  intro fl
  induction fl with
  | nil => intro b h; rfl
  | cons x r ih =>
    intro b h
    cases x <;> simp [zflds, ih (b + 1) (fun k hk => h k (by omega)), h b (Nat.le_refl b)]
theorem zflds_set {a : Nat → Nat} {f : Nat → Int32} {v : Int32} : ∀ (fl : List (Option Nat)) (b k : Nat), fl[k]? = some none → (zflds a f b fl).set k (.int v) = zflds a (upd f (b + k) v) b fl := by
  intro fl
  induction fl with
  | nil => intro b k h; simp at h
  | cons x r ih =>
    intro b k h
    cases k with
    | zero =>
      simp at h; subst h
      simp only [zflds, List.set_cons_zero, Nat.add_zero]
      rw [zflds_up (f := f) (g := upd f b v) r (b + 1) (fun k hk => by simp [upd]; intro h; omega)]
      simp [upd]
    | succ k =>
      simp at h
      have h1 := ih (b + 1) k h
      have e1 : b + 1 + k = b + (k + 1) := by omega
      rw [e1] at h1
      cases x with
      | none => simp only [zflds, List.set_cons_succ, h1]; simp [upd]
      | some t => simp only [zflds, List.set_cons_succ, h1]
theorem zlen_flds {a : Nat → Nat} {f : Nat → Int32} : ∀ (fl : List (Option Nat)) (b : Nat), (zflds a f b fl).length = fl.length := by
  intro fl
  induction fl with
  | nil => intro b; rfl
  | cons x r ih => intro b; cases x <;> simp [zflds, ih]
theorem zD {a : Nat → Nat} {kI kC : ClassId} {A : Nat → Prop} (hinj : ∀ i j, i < zIMG.length → j < zIMG.length → a i = a j → i = j) (hA : ∀ j, j < zIMG.length → A (a j)) (σ : zS) : va_D A (zWS a kI kC σ) := by
  refine ⟨fun i j p q hp hq he => ?_, fun k q hq => ?_⟩
  · obtain ⟨x, hx, rfl⟩ := zWS_some hp
    obtain ⟨y, hy, rfl⟩ := zWS_some hq
    exact hinj i j (List.getElem?_eq_some_iff.mp hx).1 (List.getElem?_eq_some_iff.mp hy).1 he
  · obtain ⟨x, hx, rfl⟩ := zWS_some hq
    exact hA k (List.getElem?_eq_some_iff.mp hx).1
/-- the locals -/
def zLd (a : Nat → Nat) (L : List (Nat × zV)) : List (Nat × Value) := L.map (fun q => (q.1, zden a q.2))
theorem zcat_den (a : Nat → Nat) (v : zV) : (zden a v).category = zcat v := by
  rcases v with x | x | x <;> rfl
theorem zLd_put (a : Nat → Nat) (L : List (Nat × zV)) (i : Nat) (v : zV) : zLd a (zput L i v) = (i, zden a v) :: (zLd a L).filter (fun q => !(q.1 == i) && !(q.1 + 1 == i && q.2.category == 2)) := by
  simp only [zLd, zput, List.map_cons, List.filter_map]
  congr 2
  apply List.filter_congr
  intro q _
  simp [zcat_den]
theorem zget_mem : ∀ {L : List (Nat × zV)} {i : Nat} {v : zV}, zget L i = some v → (i, v) ∈ L := by
  intro L
  induction L with
  | nil => intro i v h; cases h
  | cons q r ih =>
    intro i v h
    obtain ⟨j, w⟩ := q
    simp only [zget] at h
    split at h
    · next e => cases h; subst e; exact List.mem_cons_self
    · exact List.mem_cons_of_mem _ (ih h)
theorem zget_ls {a : Nat → Nat} {ls : Array Slot} {nL : Nat} {L : List (Nat × zV)} {i : Nat} {v : zV} (hl : lv_has ls nL (zLd a L)) (h : zget L i = some v) : ls[i]? = some (.val (zden a v)) :=
  hl.2.2 (i, zden a v) (List.mem_map.mpr ⟨(i, v), zget_mem h, rfl⟩)
theorem zpick_ls {a : Nat → Nat} {ls : Array Slot} {nL : Nat} {L : List (Nat × zV)} (hl : lv_has ls nL (zLd a L)) : ∀ {ix : List Nat} {vs : List zV}, zpick L ix = some vs → lv_has ls nL (zLd a (ix.zip vs)) ∧ ix.length = vs.length := by
  intro ix
  induction ix with
  | nil => intro vs h; cases h; exact ⟨⟨hl.1, hl.2.1, fun q hq => by simp [zLd] at hq⟩, rfl⟩
  | cons i r ih =>
    intro vs h
    simp only [zpick] at h
    split at h
    · cases h
    · next v hv =>
      split at h
      · cases h
      · next ws hw =>
        cases h
        obtain ⟨h1, h2⟩ := ih hw
        refine ⟨⟨hl.1, hl.2.1, fun q hq => ?_⟩, by simp [h2]⟩
        simp only [zLd, List.zip_cons_cons, List.map_cons, List.mem_cons] at hq
        rcases hq with rfl | hq
        · exact zget_ls hl hv
        · exact h1.2.2 q hq
theorem zlook_mem {α : Type} : ∀ {l : List (Nat × α)} {i : Nat} {v : α}, zlook l i = some v → (i, v) ∈ l := by
  intro l
  induction l with
  | nil => intro i v h; cases h
  | cons q r ih =>
    intro i v h
    obtain ⟨j, w⟩ := q
    simp only [zlook] at h
    split at h
    · next e => cases h; subst e; exact List.mem_cons_self
    · exact List.mem_cons_of_mem _ (ih h)
end
section
-- what stands around the image: nest mates' links, String constants
def zstx (i : Nat) : String := match i with
  | 0 => "act"
  | 1 => "timer"
  | 2 => "any"
  | 3 => "ended"
  | 4 => "sig"
  | 5 => "now"
  | 6 => "patch"
  | 7 => "stop"
  | 8 => "wait"
  | _ => ";=+-*<()?[]|,@"
def zlens : List Nat := [3, 5, 3, 5, 3, 3, 5, 4, 4, 14]
def zbyts : List (List Int32) := [zstr 0, zstr 1, zstr 2, zstr 3, zstr 4, zstr 5, zstr 6, zstr 7, zstr 8, zstr 9]
def zX (a adV : Nat → Nat) (A : Nat → Prop) (U : State) (H : Heap) : Prop :=
  (∀ w ∈ zNW, va_Nw w U) ∧ (∀ i k : Nat, zSI[i]? = some k → vk_R RX6 k (zstx i) (a (1000 + i)) U) ∧ vk_S 10 zlens zbyts (fun i => a (1000 + i)) adV A U H
theorem zNW_warm {s U : State} (hW : s.WarmedH U.vm) (h : ∀ w ∈ zNW, va_Nw w s) : ∀ w ∈ zNW, va_Nw w U := by
  intro w hw
  have h1 := h w hw
  simp only [zNW, List.mem_cons, List.not_mem_nil, or_false] at hw
  rcases hw with rfl | rfl | rfl | rfl | rfl | rfl | rfl | rfl | rfl <;> exact va_Nw.warmF hW h1
theorem zX.moved {a adV : Nat → Nat} {A B : Nat → Prop} {s U : State} {H H1 : Heap} (hW : s.WarmedH U.vm) (hq : ∀ q : Nat, q < H.size → ¬ A q → H1[q]? = H[q]?) (hAB : ∀ q, B q → A q) (h : zX a adV A s H) : zX a adV B U H1 :=
  ⟨zNW_warm hW h.1, fun i k hk => (h.2.1 i k hk).warm hW, ((h.2.2.moved hW.alike).kept hq).narrow hAB⟩
theorem zX.blind {a adV : Nat → Nat} {A : Nat → Prop} {U V : State} {H : Heap} (hv : V.vm = U.vm) (h : zX a adV A U H) : zX a adV A V H := by
  refine ⟨fun w hw => ?_, fun i k hk => (h.2.1 i k hk).same hv, h.2.2.moved (by rw [hv]; exact Vm.Alike.refl _)⟩
  have h1 := h.1 w hw
  simp only [zNW, List.mem_cons, List.not_mem_nil, or_false] at hw
  rcases hw with rfl | rfl | rfl | rfl | rfl | rfl | rfl | rfl | rfl <;> exact va_Nw.same rfl hv.symm h1
/-- what holds where a method of the image begins -/
def zPre (a adV : Nat → Nat) (kI kC : ClassId) (dC : Nat → ClassId) (dI : Nat → Nat → Nat) (σ : zS) (U : State) : Prop :=
  va_P (dC, dI) vwCl (zWS a kI kC σ) U.heap ∧ va_K (dC, dI) vwCl (ztys kI kC) U ∧ zX a adV (zA a) U U.heap
def zrv (r : zR) : Option Value := if r.1 = 0 then none else some (.int r.2.1)
/-- where it has returned -/
def zQc (a : Nat → Nat) (kI kC : ClassId) (dC : Nat → ClassId) (dI : Nat → Nat → Nat) (r : zR) : Array Value → State → Outcome → State → Prop := fun _ st o t =>
  o = .returned (zrv r) ∧ va_P (dC, dI) vwCl (zWS a kI kC r.2.2) t.heap ∧ va_F (zA a) st t
/-- a method's contract: on σ it gives r -/
def zCon (l : Launch) (a adV : Nat → Nat) (kI kC : ClassId) (dC : Nat → ClassId) (dI : Nat → Nat → Nat) (R : Room) (mi : Nat) (as : List zV) (σ : zS) (r : zR) : Prop :=
  ∀ (C : String) (y : MethodName) (n : Nat) (rt : Option FieldType) (tab : List (Nat × zO)) (cut : List (Nat × List Nat)) (i : Nat) (b : ByteArray), zMT[mi]? = some ((C, y, n, rt, tab, cut), i) → lw_tbl[i]? = some (.code y b n rt) →
    ∃ rm : Room, rm.cells = 0 ∧ rm.slots = 0 ∧ rm.frames + 1 ≤ R.frames ∧ 8 + (n + 11) + rm.locals ≤ R.locals ∧
      Met l y (zws y b n rt) rm (va_Pc (as.map (zden a)) (zPre a adV kI kC dC dI σ)) (zQc a kI kC dC dI r) 0 0 (zA a)
section
variable {p : Program} {l : Launch} {e : Env} {R : Room} {s : State} {m : MethodId} {args : Array Value} {below : List Frame} {meth : Method} {c : Code} {H : Heap} {locs : List Loc} {cells slots : Nat} {Q : State → Prop}
theorem zblind {a adV : Nat → Nat} {kI kC : ClassId} {dC : Nat → ClassId} {dI : Nat → Nat → Nat} {σ : zS} {av : List Value} : FrameBlind (va_Pc av (zPre a adV kI kC dC dI σ)) := by
  intro A U g mk h
  obtain ⟨h1, h2, h3, h4⟩ := h
  exact ⟨h1, h2, va_K.moved (u := U) (U := U.calling g mk A) (Vm.Alike.refl U.vm) h3, zX.blind (U := U) rfl h4⟩
theorem zPre_at {a adV : Nat → Nat} {kI kC : ClassId} {dC : Nat → ClassId} {dI : Nat → Nat → Nat} {σ : zS} {A : Nat → Prop} (hK : va_K (dC, dI) vwCl (ztys kI kC) s) (hX : zX a adV A s s.heap) (hA : ∀ q, zA a q → A q)
    (hP : va_P (dC, dI) vwCl (zWS a kI kC σ) H) (hS : va_S A s.heap H locs) {U : State} (hU : U.heap = H) (hW : s.WarmedH U.vm) : zPre a adV kI kC dC dI σ U :=
  ⟨by rw [hU]; exact hP, va_K.moved hW.alike hK, by rw [hU]; exact hX.moved hW hS.2.1 hA⟩
/-- a call has come back -/
theorem zback {a : Nat → Nat} {kI kC : ClassId} {dC : Nat → ClassId} {dI : Nat → Nat → Nat} {r : zR} {A : Nat → Prop} {aa : Array Value} {pc : Nat} {ls : Array Slot} {st0 rest : List Value}
    (hr : va_Run p l e R s m args below meth c H locs cells slots 0 0 (F0 m pc ls st0) rest (zQc a kI kC dC dI r aa) (zA a)) (hA : ∀ q, zA a q → A q) (hS : va_S A s.heap H locs)
    (kk : ∀ (H1 : Heap) (locs1 : List Loc), va_P (dC, dI) vwCl (zWS a kI kC r.2.2) H1 → va_S A s.heap H1 locs1 → W p l e R s m args below meth c H1 locs1 cells slots Q (F0 m (pc + 3) ls ((zrv r).toList ++ rest))) : W p l e R s m args below meth c H locs cells slots Q (F0 m pc ls st0) := by
  intro T hT X
  obtain ⟨v, st₀, t, T', L, h0, X', hL, e1, e2, ⟨hv, hp, hz, hk⟩, st⟩ := hr T hT X
  cases hv
  rw [h0] at hz hk
  obtain ⟨t2, a1, b1⟩ := kk T'.heap (locs ++ L) (by rw [e1]; exact hp)
    ⟨Nat.le_trans hS.1 (by rw [e1]; exact hz), fun q h1 h2 => by rw [e1, hk q (Nat.lt_of_lt_of_le h1 hS.1) (fun z => h2 (hA q z))]; exact hS.2.1 q h1 h2, fun q hq => by
      rcases List.mem_append.mp hq with h | h
      · exact hS.2.2 q h
      · exact hA _ (hL q h)⟩ T' rfl X'
  exact ⟨t2, st t2 a1, b1⟩
end
end
section
-- one instruction: what the small machine does, the machine does
section
variable {p : Program} {l : Launch} {e : Env} {R : Room} {s : State} {m : MethodId} {args : Array Value} {below : List Frame} {meth : Method} {c : Code} {cells slots : Nat} {Q : State → Prop}
variable {a adV : Nat → Nat} {kI kC : ClassId} {dC : Nat → ClassId} {dI : Nat → Nat → Nat} {A : Nat → Prop} {own : String} {cc : ByteArray} {nL : Nat} {rt : Option FieldType} {Ts : List Cond} {out : zR} {call : zCall} {go : zGo}
/-- where a method runs -/
def zCtx (p : Program) (s : State) (m : MethodId) (args : Array Value) (c : Code) (own : String) (cc : ByteArray) (nL : Nat) (a adV : Nat → Nat) (kI kC : ClassId) (dC : Nat → ClassId) (dI : Nat → Nat → Nat) (A : Nat → Prop) (Ts : List Cond) : Prop :=
  p.tables.exec = Jvm.exec ∧ c.code = cc ∧ c.maxLocals = nL ∧ s.vm.findClass own = some m.cls ∧ (∀ w ∈ Ts, w.before args s = true) ∧ (∀ w ∈ zTB, w ∈ Ts) ∧ va_K (dC, dI) vwCl (ztys kI kC) s ∧ zX a adV A s s.heap ∧
    (∀ i j, i < zIMG.length → j < zIMG.length → a i = a j → i = j) ∧ (∀ q, zA a q → A q)
/-- what is known of what follows -/
def zGS (p : Program) (l : Launch) (e : Env) (R : Room) (s : State) (m : MethodId) (args : Array Value) (below : List Frame) (meth : Method) (c : Code) (cells slots : Nat) (Q : State → Prop) (a : Nat → Nat) (kI kC : ClassId) (dC : Nat → ClassId) (dI : Nat → Nat → Nat) (A : Nat → Prop) (nL : Nat) (go : zGo) (out : zR) : Prop :=
  ∀ pc L st σ ls H locs, go pc L st σ = some out → lv_has ls nL (zLd a L) → va_P (dC, dI) vwCl (zWS a kI kC σ) H → va_S A s.heap H locs → W p l e R s m args below meth c H locs cells slots Q (F0 m (zpc pc) ls (st.map (zden a)))
theorem zarr_spec {j ty n : Nat} (h : zarr j ty = some n) : zIMG[j]? = some (.inr (ty, n)) := by
  simp only [zarr] at h
  split at h
  · next t n' hi =>
    split at h
    · next e => cases h; subst e; exact hi
    · cases h
  · cases h
theorem zwr_spec {j ci k : Nat} (h : zwr j ci k = true) : ∃ fl, zIMG[j]? = some (.inl (ci, fl)) ∧ fl[k]? = some none := by
  simp only [zwr] at h
  split at h
  · next cj fl hi =>
    simp only [Bool.and_eq_true, beq_iff_eq] at h
    obtain ⟨rfl, h2⟩ := h
    exact ⟨fl, hi, h2⟩
  · cases h
theorem zcls_spec {j ci : Nat} (h : zcls j ci = true) : ∃ fl, zIMG[j]? = some (.inl (ci, fl)) := by
  simp only [zcls] at h
  split at h
  · next cj fl hi => simp only [beq_iff_eq] at h; subst h; exact ⟨fl, hi⟩
  · cases h
theorem zfld_spec {σ : zS} {j ci k : Nat} {v : zV} (h : zfld σ j ci k = some v) : ∃ fl, zIMG[j]? = some (.inl (ci, fl)) ∧ ((fl[k]? = some none ∧ v = .inl (σ j k)) ∨ ∃ t, fl[k]? = some (some t) ∧ v = .inr (.inr t)) := by
  simp only [zfld] at h
  split at h
  · next cj fl hi =>
    split at h
    · next e =>
      subst e
      refine ⟨fl, hi, ?_⟩
      split at h
      · next hk => cases h; exact Or.inl ⟨hk, rfl⟩
      · next t hk => cases h; exact Or.inr ⟨t, hk, rfl⟩
      · cases h
    · cases h
  · cases h
theorem zfld_val {σ : zS} {j k : Nat} {v : zV} {fl : List (Option Nat)} (h : (fl[k]? = some none ∧ v = .inl (σ j k)) ∨ ∃ t, fl[k]? = some (some t) ∧ v = .inr (.inr t)) : (zflds a (σ j) 0 fl)[k]? = some (zden a v) := by
  rcases h with ⟨h1, rfl⟩ | ⟨t, h1, rfl⟩
  · rw [zflds_int fl 0 k h1, Nat.zero_add]; rfl
  · rw [zflds_ref fl 0 k h1]; rfl
theorem znarrow_bool {v : Int32} (h : v = 0 ∨ v = 1) : narrow .boolean (.int v) = .int v ∧ fits .boolean (.int v) = true := by
  rcases h with rfl | rfl <;> exact ⟨by decide, by decide⟩
theorem zs_get (C0 : zCtx p s m args c own cc nL a adV kI kC dC dI A Ts) (hgo : zGS p l e R s m args below meth c cells slots Q a kI kC dC dI A nL go out) {pc nx x y z idx : Nat} {L : List (Nat × zV)} {st : List zV} {σ : zS} {ls : Array Slot} {H : Heap} {locs : List Loc} {n : Nat}
    (hd : decode cc pc = .ok (.getfield idx, 3)) (hnx : zpc nx = pc + 3) (hf : zFLT[z]? = some (own, idx, x, y, n))
    (hs : (match st with
      | .inr (.inr j) :: r => match zfld σ j x y with
        | some v => go nx L (v :: r) σ
        | none => none
      | _ => none) = some out) (hl : lv_has ls nL (zLd a L)) (hP : va_P (dC, dI) vwCl (zWS a kI kC σ) H) (hS : va_S A s.heap H locs) : W p l e R s m args below meth c H locs cells slots Q (F0 m pc ls (st.map (zden a))) := by
  obtain ⟨hx, hb, hml, hown, hts, hTs, hK, hX, hinj, hA⟩ := C0
  split at hs
  · next j r =>
    split at hs
    · next v hv =>
      obtain ⟨fl, hi, hval⟩ := zfld_spec hv
      obtain ⟨q, hq, hk, hw⟩ := zfl_spec hf
      have k1 := hgo _ _ _ _ _ _ _ hs hl hP hS
      rw [hnx] at k1
      have hin := fun w h => hTs w (zcl_in x q hq w h)
      have he := zWS_get (a := a) (kI := kI) (kC := kC) (σ := σ) hi
      split at hw
      · exact va_get (D := (dC, dI)) (cl := vwCl) (C := q.1) (T := q.2.1) (N := q.2.2) hx hb hts hin hown hK hP j he hq y hk (hts _ (hTs _ hw)) (fun _ h => h) (zfld_val hval) hd k1
      · exact va_getN (D := (dC, dI)) (cl := vwCl) (C := q.1) (T := q.2.1) (N := q.2.2) (host := RX7) hx hb hts hin hown hK hP j he hq y hk (va_Nw.use rfl (hX.1 _ hw)) (fun _ h => h) (zfld_val hval) hd k1
    · cases hs
  · cases hs
theorem zs_put (C0 : zCtx p s m args c own cc nL a adV kI kC dC dI A Ts) (hgo : zGS p l e R s m args below meth c cells slots Q a kI kC dC dI A nL go out) {pc nx x y z idx j : Nat} {v : Int32} {L : List (Nat × zV)} {r : List zV} {σ : zS} {ls : Array Slot} {H : Heap} {locs : List Loc} {n : Nat}
    (hd : decode cc pc = .ok (.putfield idx, 3)) (hnx : zpc nx = pc + 3) (hf : zFLT[z]? = some (own, idx, x, y, n)) (hnf : narrow (zty x y) (.int v) = .int v ∧ fits (zty x y) (.int v) = true) (hfin : (match vwCl[x]? with
        | some q => (q.2.1 y).2.2.2 == false
        | none => false) = true) (hwr : zwr j x y = true)
    (hs : go nx L r (zset σ j (upd (σ j) y v)) = some out) (hl : lv_has ls nL (zLd a L)) (hP : va_P (dC, dI) vwCl (zWS a kI kC σ) H) (hS : va_S A s.heap H locs) : W p l e R s m args below meth c H locs cells slots Q (F0 m pc ls (.int v :: .ref (a j) :: r.map (zden a))) := by
  obtain ⟨hx, hb, hml, hown, hts, hTs, hK, hX, hinj, hA⟩ := C0
  obtain ⟨fl, hi, hfl⟩ := zwr_spec hwr
  obtain ⟨q, hq, hk, hw⟩ := zfl_spec hf
  rw [hq] at hfin
  have hfin : (q.2.1 y).2.2.2 = false := by simpa using hfin
  have hD : va_D A (zWS a kI kC σ) := zD hinj (fun j h => hA _ ⟨j, h, rfl⟩) σ
  obtain ⟨ht1, ht2⟩ := zcl_ty x q hq
  have hin := fun w h => hTs w (zcl_in x q hq w h)
  have he := zWS_get (a := a) (kI := kI) (kC := kC) (σ := σ) hi
  obtain ⟨hn1, hn2⟩ := hnf
  have key : ∀ (H1 : Heap) (locs1 : List Loc), va_P (dC, dI) vwCl ((zWS a kI kC σ).set j (a j, .inr (x, (zflds a (σ j) 0 fl).set y (.int v)))) H1 → va_D A ((zWS a kI kC σ).set j (a j, .inr (x, (zflds a (σ j) 0 fl).set y (.int v)))) → va_S A s.heap H1 locs1 → W p l e R s m args below meth c H1 locs1 cells slots Q (F0 m (pc + 3) ls (r.map (zden a))) := by
    intro H1 locs1 hP1 _ hS1
    rw [zflds_set fl 0 y hfl, Nat.zero_add] at hP1
    have e1 : (zWS a kI kC σ).set j (a j, .inr (x, zflds a (upd (σ j) y v) 0 fl)) = zWS a kI kC (zset σ j (upd (σ j) y v)) := zWS_set hi
    rw [e1] at hP1
    have k1 := hgo _ _ _ _ _ _ _ hs hl hP1 hS1
    rw [hnx] at k1
    exact k1
  have hlen : y < (zflds a (σ j) 0 fl).length := by
    rw [zlen_flds]; exact (List.getElem?_eq_some_iff.mp hfl).1
  split at hw
  · exact va_put (D := (dC, dI)) (cl := vwCl) (C := q.1) (T := q.2.1) (N := q.2.2) (ty := zty x y) hx hb hts hin (zty x) ht1 ht2 hown hK hP hD hS j he hq y hk (hts _ (hTs _ hw)) (fun _ h => h) hfin (ht1 y hk) hn1 hn2 hlen hd key
  · exact va_putN (D := (dC, dI)) (cl := vwCl) (C := q.1) (T := q.2.1) (N := q.2.2) (ty := zty x y) (host := RX7) hx hb hts hin (zty x) ht1 ht2 hown hK hP hD hS j he hq y hk (va_Nw.use rfl (hX.1 _ hw)) (fun _ h => h) hfin (ht1 y hk) hn1 hn2 hlen hd key
theorem zs_ald (C0 : zCtx p s m args c own cc nL a adV kI kC dC dI A Ts) (hgo : zGS p l e R s m args below meth c cells slots Q a kI kC dC dI A nL go out) {pc nx y : Nat} {L : List (Nat × zV)} {st : List zV} {σ : zS} {ls : Array Slot} {H : Heap} {locs : List Loc}
    (hd : (y = 0 ∧ decode cc pc = .ok (.iaload, 1)) ∨ (y = 1 ∧ decode cc pc = .ok (.caload, 1))) (hnx : zpc nx = pc + 1)
    (hs : (match st with
      | .inl i :: .inr (.inr j) :: r => match zarr j y with
        | some n => if i < 0 ∨ n ≤ i.toNatClampNeg then none else go nx L (.inl (σ j i.toNatClampNeg) :: r) σ
        | none => none
      | _ => none) = some out) (hl : lv_has ls nL (zLd a L)) (hP : va_P (dC, dI) vwCl (zWS a kI kC σ) H) (hS : va_S A s.heap H locs) : W p l e R s m args below meth c H locs cells slots Q (F0 m pc ls (st.map (zden a))) := by
  obtain ⟨hx, hb, hml, hown, hts, hTs, hK, hX, hinj, hA⟩ := C0
  split at hs
  · next i j r =>
    split at hs
    · next n hn =>
      split at hs
      · cases hs
      · next hin =>
        have hi := zarr_spec hn
        have he := zWS_get (a := a) (kI := kI) (kC := kC) (σ := σ) hi
        have k1 := hgo _ _ _ _ _ _ _ hs hl hP hS
        rw [hnx] at k1
        rcases hd with ⟨rfl, hd⟩ | ⟨rfl, hd⟩
        · exact va_iald (D := (dC, dI)) (cl := vwCl) hx hb hK hP j 0 he rfl hin hd k1
        · exact va_cald (D := (dC, dI)) (cl := vwCl) hx hb hK hP j 1 he rfl hin hd k1
    · cases hs
  · cases hs
theorem zs_ast (C0 : zCtx p s m args c own cc nL a adV kI kC dC dI A Ts) (hgo : zGS p l e R s m args below meth c cells slots Q a kI kC dC dI A nL go out) {pc nx y : Nat} {L : List (Nat × zV)} {st : List zV} {σ : zS} {ls : Array Slot} {H : Heap} {locs : List Loc}
    (hd : (y = 0 ∧ decode cc pc = .ok (.iastore, 1)) ∨ (y = 1 ∧ decode cc pc = .ok (.castore, 1))) (hnx : zpc nx = pc + 1)
    (hs : (match st with
      | .inl v :: .inl i :: .inr (.inr j) :: r => match zarr j y with
        | some n => if i < 0 ∨ n ≤ i.toNatClampNeg then none else go nx L r (zset σ j (upd (σ j) i.toNatClampNeg (if y = 1 then vp_nar .char v else v)))
        | none => none
      | _ => none) = some out) (hl : lv_has ls nL (zLd a L)) (hP : va_P (dC, dI) vwCl (zWS a kI kC σ) H) (hS : va_S A s.heap H locs) : W p l e R s m args below meth c H locs cells slots Q (F0 m pc ls (st.map (zden a))) := by
  obtain ⟨hx, hb, hml, hown, hts, hTs, hK, hX, hinj, hA⟩ := C0
  split at hs
  · next v i j r =>
    split at hs
    · next n hn =>
      split at hs
      · cases hs
      · next hin =>
        have hi := zarr_spec hn
        have he := zWS_get (a := a) (kI := kI) (kC := kC) (σ := σ) hi
        have hD : va_D A (zWS a kI kC σ) := zD hinj (fun j h => hA _ ⟨j, h, rfl⟩) σ
        have key : ∀ (f : Nat → Int32), go nx L r (zset σ j f) = some out → ∀ (H1 : Heap) (locs1 : List Loc), va_P (dC, dI) vwCl ((zWS a kI kC σ).set j (a j, zcell a kI kC f (.inr (y, n)))) H1 → va_S A s.heap H1 locs1 → W p l e R s m args below meth c H1 locs1 cells slots Q (F0 m (pc + 1) ls (r.map (zden a))) := by
          intro f hs H1 locs1 hP1 hS1
          rw [zWS_set hi] at hP1
          have k1 := hgo _ _ _ _ _ _ _ hs hl hP1 hS1
          rw [hnx] at k1
          exact k1
        rcases hd with ⟨rfl, hd⟩ | ⟨rfl, hd⟩
        · exact va_iast (D := (dC, dI)) (cl := vwCl) hx hb hK hP hD hS j 0 he rfl hin hd (fun H1 locs1 hP1 _ hS1 => key _ hs H1 locs1 hP1 hS1)
        · exact va_cast (D := (dC, dI)) (cl := vwCl) hx hb hK hP hD hS j 1 he rfl hin hd (fun H1 locs1 hP1 _ hS1 => key _ hs H1 locs1 hP1 hS1)
    · cases hs
  · cases hs
end
end
section
-- calls, copies, switches
theorem zcp_in : zin 795 (.methodLink RX1 43 arraycopyName) = true ∧ zin 953 (.methodLink RX3 32 arraycopyName) = true ∧ zin 796 (.static arraycopyName) = true ∧ zin 797 (.native arraycopyName) = true ∧ zin 96 (.initialized "java/lang/System") = true := by decide +kernel
theorem zcode_good (y : MethodName) (b : ByteArray) (n : Nat) (r : Option FieldType) : goodWord (.code y b n r) = true := rfl
theorem zGood {Ts : List Cond} (hTs : ∀ w ∈ zTB, w ∈ Ts) {i : Nat} {y : MethodName} {b : ByteArray} {n : Nat} {r : Option FieldType} (h : lw_tbl[i]? = some (.code y b n r)) : GoodIn Ts (zws y b n r) := by
  intro w hw
  have hc : Cond.code y b n r ∈ zTB := List.mem_filter.mpr ⟨List.mem_of_getElem? h, zcode_good y b n r⟩
  have hw2 : w ∈ zTB := by
    rcases List.mem_cons.mp hw with rfl | hw
    · exact hc
    · exact hw
  exact ⟨hTs w hw2, zTB_good hw2⟩
theorem zcats (a : Nat → Nat) (st : List zV) : ((st.map (zden a)).map fun v => v.category).sum = (st.map zcat).sum := by
  induction st with
  | nil => rfl
  | cons v r ih => simp only [List.map_cons, List.sum_cons, ih, zcat_den]
section
variable {p : Program} {l : Launch} {e : Env} {R : Room} {s : State} {m : MethodId} {args : Array Value} {below : List Frame} {meth : Method} {c : Code} {cells slots : Nat} {Q : State → Prop}
variable {a adV : Nat → Nat} {kI kC : ClassId} {dC : Nat → ClassId} {dI : Nat → Nat → Nat} {A : Nat → Prop} {own : String} {cc : ByteArray} {nL : Nat} {rt : Option FieldType} {Ts : List Cond} {out : zR} {call : zCall} {go : zGo}
theorem zs_inv (C0 : zCtx p s m args c own cc nL a adV kI kC dC dI A Ts) (hroom : cells ≤ R.cells ∧ slots ≤ R.slots) (hgo : zGS p l e R s m args below meth c cells slots Q a kI kC dC dI A nL go out)
    (hcall : ∀ mi as σ r, call mi as σ = some r → r.1 < 2 → zCon l a adV kI kC dC dI R mi as σ r) {pc nx x y z idx : Nat} {sw : List (Int32 × Nat)} {L : List (Nat × zV)} {st : List zV} {σ : zS} {ls : Array Slot} {H : Heap} {locs : List Loc}
    (hd : (decode cc pc = .ok (.invokevirtual idx, 3) ∧ ∃ k0 ci, sw = [(k0, ci)] ∧ 1 ≤ y ∧ zMLT[z]? = some (own, idx, x, 0, ci, y - 1)) ∨ (decode cc pc = .ok (.invokestatic idx, 3) ∧ sw = [] ∧ ∃ ci, zMLT[z]? = some (own, idx, x, 1, ci, y)))
    (hnx : zpc nx = pc + 3) (hs : zinv call go nx x y sw L st σ = some out ∨ zinvV call go nx x y sw L st σ = some out) (hl : lv_has ls nL (zLd a L)) (hP : va_P (dC, dI) vwCl (zWS a kI kC σ) H) (hS : va_S A s.heap H locs) : W p l e R s m args below meth c H locs cells slots Q (F0 m pc ls (st.map (zden a))) := by
  have C1 := C0
  obtain ⟨hx, hb, hml, hown, hts, hTs, hK, hX, hinj, hA⟩ := C0
  have hg : (¬ (st.length < y ∨ 8 < ((st.drop y).map zcat).sum) ∧ zrecv sw (st.take y).reverse = true) ∧ (zbI (call x (st.take y).reverse σ) (fun r σ' => go nx L (.inl r :: st.drop y) σ') = some out ∨ zbV (call x (st.take y).reverse σ) (fun σ' => go nx L (st.drop y) σ') = some out) := by
    simp only [zinv, zinvV] at hs
    by_cases h1 : st.length < y ∨ 8 < ((st.drop y).map zcat).sum
    · rw [if_pos h1, if_pos h1] at hs
      rcases hs with hs | hs <;> cases hs
    · rw [if_neg h1, if_neg h1] at hs
      by_cases h2 : zrecv sw (st.take y).reverse = true
      · rw [if_pos h2, if_pos h2] at hs
        exact ⟨⟨h1, h2⟩, hs⟩
      · rw [if_neg h2, if_neg h2] at hs
        rcases hs with hs | hs <;> cases hs
  obtain ⟨⟨hlen, hrecv⟩, hs⟩ := hg
  have hlen1 : y ≤ st.length := by omega
  have hcat : ((st.drop y).map zcat).sum ≤ 8 := by omega
  -- the answer
  have hans : ∃ r : zR, call x (st.take y).reverse σ = some r ∧ r.1 < 2 ∧ ∀ (H1 : Heap) (locs1 : List Loc), va_P (dC, dI) vwCl (zWS a kI kC r.2.2) H1 → va_S A s.heap H1 locs1 → W p l e R s m args below meth c H1 locs1 cells slots Q (F0 m (pc + 3) ls ((zrv r).toList ++ (st.drop y).map (zden a))) := by
    rcases hs with hs | hs
    · simp only [zbI] at hs
      split at hs
      · next v0 σ' hc =>
        refine ⟨_, hc, Nat.lt_succ_self 1, fun H1 locs1 hP1 hS1 => ?_⟩
        have k1 := hgo _ _ _ _ _ _ _ hs hl hP1 hS1
        rw [hnx] at k1
        exact k1
      · cases hs
    · simp only [zbV] at hs
      split at hs
      · next v0 σ' hc =>
        refine ⟨_, hc, Nat.zero_lt_succ 1, fun H1 locs1 hP1 hS1 => ?_⟩
        have k1 := hgo _ _ _ _ _ _ _ hs hl hP1 hS1
        rw [hnx] at k1
        exact k1
      · cases hs
  obtain ⟨r, hc, hr2, kk⟩ := hans
  have hcon := hcall _ _ _ _ hc hr2
  have hst : st.map (zden a) = (st.take y).map (zden a) ++ (st.drop y).map (zden a) := by rw [← List.map_append, List.take_append_drop]
  rcases hd with ⟨hd, k0, ci, rfl, hy1, hz⟩ | ⟨hd, rfl, ci, hz⟩
  · obtain ⟨C, yn, nl, rt', tab, cut, i, hmt, hycls, ⟨T, N, hcl⟩, hw1, hw2, hpar, hw3⟩ := zml_spec hz
    rw [if_pos rfl] at hw3
    obtain ⟨C', y', n', rt2, tab', cut', i', b, he, hcode, hplain, hy2, hy3, hn20, -⟩ := zmt_spec (zk_all _ (List.mem_of_getElem? hmt))
    cases he
    obtain ⟨rm, hrc, hrs, hrf, hrl, hM⟩ := hcon _ _ _ _ _ _ _ b hmt hcode
    -- the receiver
    cases hrev : (st.take y).reverse with
    | nil => rw [hrev] at hrecv; simp [zrecv] at hrecv
    | cons v0 tl =>
      rw [hrev] at hrecv hM
      rcases v0 with v0 | v0 | j
      · simp [zrecv] at hrecv
      · simp [zrecv] at hrecv
      · have hrecv : zcls j ci = true := hrecv
        obtain ⟨fl, hi⟩ := zcls_spec hrecv
        have he := zWS_get (a := a) (kI := kI) (kC := kC) (σ := σ) hi
        have htk : st.take y = tl.reverse ++ [.inr (.inr j)] := by
          have := congrArg List.reverse hrev
          simpa using this
        have hn : (tl.map (zden a)).length = y - 1 := by
          have h1 := congrArg List.length hrev
          simp at h1
          simp
          omega
        have hcw : CallW R s args own C idx yn b nl rt' (zws yn b nl rt') rm 0 0 (y - 1) :=
          ⟨callB_of (y - 1) hts (zGood hTs hcode) rfl hrc hrs (by rw [hy2]; exact hts _ (hTs _ hw2)) (hts _ (hTs _ hw1)) ⟨hy3.1, hy3.2, hpar⟩ ⟨hrf, hrl⟩, hts _ (hTs _ hw3.1), hts _ (hTs _ hw3.2)⟩
        have hrun := va_runV (cells := cells) (slots := slots) (below := below) (meth := meth) (locs := locs) (e := e) (l := l) (As := tl.map (zden a)) (rest := (st.drop y).map (zden a)) (b := a j) (g := F0 m pc ls (st.map (zden a))) (H := H) ⟨hx, hb, hml, hown, hts⟩ hM hcw
          ⟨zblind, va_recv hK hP hcl he, fun U hU hW => ⟨rfl, zPre_at hK hX hA hP hS hU hW⟩⟩ rfl hn hl.1 (by show st.map (zden a) = _; rw [hst, htk]; simp [zden]) (lv_room (by rw [zcats]; exact hcat)) hd ⟨hroom.1, hroom.2⟩
        exact zback hrun hA hS kk
  · obtain ⟨C, yn, nl, rt', tab, cut, i, hmt, hycls, ⟨T, N, hcl⟩, hw1, hw2, hpar, hw3⟩ := zml_spec hz
    rw [if_neg (by decide)] at hw3
    obtain ⟨C', y', n', rt2, tab', cut', i', b, he, hcode, hplain, hy2, hy3, hn20, -⟩ := zmt_spec (zk_all _ (List.mem_of_getElem? hmt))
    cases he
    obtain ⟨rm, hrc, hrs, hrf, hrl, hM⟩ := hcon _ _ _ _ _ _ _ b hmt hcode
    have hn : (((st.take y).reverse).map (zden a)).length = y := by simp; omega
    have hcw : CallB R s args own idx yn b nl rt' (zws yn b nl rt') rm 0 0 y ∧ (Cond.static yn).before args s = true :=
      ⟨callB_of y hts (zGood hTs hcode) rfl hrc hrs (by rw [hy2]; exact hts _ (hTs _ hw2)) (hts _ (hTs _ hw1)) ⟨hy3.1, hy3.2, hpar⟩ ⟨hrf, hrl⟩, hts _ (hTs _ hw3.1)⟩
    have hrun := va_runS (cells := cells) (slots := slots) (below := below) (meth := meth) (locs := locs) (e := e) (l := l) (As := ((st.take y).reverse).map (zden a)) (rest := (st.drop y).map (zden a)) (g := F0 m pc ls (st.map (zden a))) (H := H) ⟨hx, hb, hml, hown, hts⟩ hM hcw
      ⟨zblind, fun U hU hW => ⟨rfl, zPre_at hK hX hA hP hS hU hW⟩⟩ rfl hn hl.1 (by show st.map (zden a) = _; rw [hst]; simp) (lv_room (by rw [zcats]; exact hcat)) hd ⟨hroom.1, hroom.2⟩
    exact zback hrun hA hS kk
theorem zs_copy (C0 : zCtx p s m args c own cc nL a adV kI kC dC dI A Ts) (hR : 1 ≤ R.frames ∧ 40 ≤ R.locals) (hgo : zGS p l e R s m args below meth c cells slots Q a kI kC dC dI A nL go out)
    {pc nx idx : Nat} {L : List (Nat × zV)} {st : List zV} {σ : zS} {ls : Array Slot} {H : Heap} {locs : List Loc}
    (hd : decode cc pc = .ok (.invokestatic idx, 3)) (hw : (own = RX1 ∧ idx = 43) ∨ (own = RX3 ∧ idx = 32))
    (hnx : zpc nx = pc + 3) (hs : zcopy go nx L st σ = some out) (hl : lv_has ls nL (zLd a L)) (hP : va_P (dC, dI) vwCl (zWS a kI kC σ) H) (hS : va_S A s.heap H locs) : W p l e R s m args below meth c H locs cells slots Q (F0 m pc ls (st.map (zden a))) := by
  obtain ⟨hx, hb, hml, hown, hts, hTs, hK, hX, hinj, hA⟩ := C0
  obtain ⟨z1, z2, z3, z4, z5⟩ := zcp_in
  have hlink : (Cond.methodLink own idx arraycopyName).before args s = true := by
    rcases hw with ⟨rfl, rfl⟩ | ⟨rfl, rfl⟩
    · exact hts _ (hTs _ (zin_mem z1))
    · exact hts _ (hTs _ (zin_mem z2))
  simp only [zcopy] at hs
  split at hs
  · next n dp d sp j r =>
    split at hs
    · next n0 n1 h0 h1 =>
      split at hs
      · cases hs
      · next hcond =>
        simp only [not_or] at hcond
        obtain ⟨g1, g2, g3, g4, g5, g6⟩ := hcond
        have hi0 := zarr_spec h0
        have hi1 := zarr_spec h1
        have he0 := zWS_get (a := a) (kI := kI) (kC := kC) (σ := σ) hi0
        have he1 := zWS_get (a := a) (kI := kI) (kC := kC) (σ := σ) hi1
        have hD : va_D A (zWS a kI kC σ) := zD hinj (fun j h => hA _ ⟨j, h, rfl⟩) σ
        refine va_copyi (D := (dC, dI)) (cl := vwCl) (rest := r.map (zden a)) hx hb (hml.trans hl.1.symm) hown hlink (hts _ (hTs _ (zin_mem z4))) (hts _ (hTs _ (zin_mem z3))) (hts _ (hTs _ (zin_mem z5))) hK hP hD hS j d 0 0 he0 he1 rfl rfl rfl g1 g2 g3 (by omega) (by omega) (fun _ _ => rfl) hR.1 ?_ hd ?_
        · rw [zcats]
          have : nativeFrameWords "java/lang/System" "arraycopy" 5 = 7 := by decide
          rw [this]
          omega
        · intro H1 locs1 hP1 _ hS1
          have e1 := zWS_set (a := a) (kI := kI) (kC := kC) (σ := σ) (f := va_cpy (σ j) (σ d) sp.toNatClampNeg dp.toNatClampNeg n.toNatClampNeg) hi1
          have hP2 : va_P (dC, dI) vwCl ((zWS a kI kC σ).set d (a d, zcell a kI kC (va_cpy (σ j) (σ d) sp.toNatClampNeg dp.toNatClampNeg n.toNatClampNeg) (.inr (0, n1)))) H1 := hP1
          rw [e1] at hP2
          have k1 := hgo _ _ _ _ _ _ _ hs hl hP2 hS1
          rw [hnx] at k1
          exact k1
    · cases hs
  · cases hs
/-- a switch: by a row of it, or by none -/
theorem zsw_spec {α : Type} {v : Int32} {k : Nat → Option α} {d : Nat} {o : α} : ∀ {sw : List (Int32 × Nat)}, zsw v k d sw = some o → (∃ (j : Nat) (q : Int32 × Nat), sw[j]? = some q ∧ v = q.1 ∧ k q.2 = some o ∧ ∀ i q', i < j → sw[i]? = some q' → v ≠ q'.1) ∨ ((∀ q ∈ sw, v ≠ q.1) ∧ k d = some o) := by
  intro sw
  induction sw with
  | nil => intro h; exact Or.inr ⟨fun q hq => (by cases hq), h⟩
  | cons q r ih =>
    intro h
    obtain ⟨x, t⟩ := q
    simp only [zsw] at h
    split at h
    · next e => exact Or.inl ⟨0, (x, t), rfl, e, h, fun i q' hi => absurd hi (Nat.not_lt_zero i)⟩
    · next e =>
      rcases ih h with ⟨j, q, h1, h2, h3, h4⟩ | ⟨h1, h2⟩
      · refine Or.inl ⟨j + 1, q, by simpa using h1, h2, h3, fun i q' hi hq => ?_⟩
        cases i with
        | zero => simp at hq; subst hq; exact e
        | succ i => exact h4 i q' (by omega) (by simpa using hq)
      · refine Or.inr ⟨fun q hq => ?_, h2⟩
        rcases List.mem_cons.mp hq with rfl | hq
        · exact e
        · exact h1 q hq
end
end
section
-- the small machine is sound: instruction, segment, method
theorem zc_long : zin 1165 (.constantLong RX8 71 255) = true := by decide +kernel
section
variable {p : Program} {l : Launch} {e : Env} {R : Room} {s : State} {m : MethodId} {args : Array Value} {below : List Frame} {meth : Method} {c : Code} {cells slots : Nat} {Q : State → Prop}
variable {a adV : Nat → Nat} {kI kC : ClassId} {dC : Nat → ClassId} {dI : Nat → Nat → Nat} {A : Nat → Prop} {own : String} {cc : ByteArray} {nL : Nat} {rt : Option FieldType} {Ts : List Cond} {out : zR} {call : zCall} {go : zGo}
/-- an answer is given -/
def zRet (p : Program) (l : Launch) (e : Env) (R : Room) (s : State) (m : MethodId) (args : Array Value) (below : List Frame) (meth : Method) (c : Code) (cells slots : Nat) (Q : State → Prop) (a : Nat → Nat) (kI kC : ClassId) (dC : Nat → ClassId) (dI : Nat → Nat → Nat) (A : Nat → Prop) (cc : ByteArray) (rt : Option FieldType) (nL : Nat) (out : zR) : Prop :=
  (∀ pc ls H locs v σ, decode cc pc = .ok (.ireturn, 1) → out = (1, v, σ) → (rt = some .int ∨ (rt = some .boolean ∧ (v = 0 ∨ v = 1))) → va_P (dC, dI) vwCl (zWS a kI kC σ) H → va_S A s.heap H locs → W p l e R s m args below meth c H locs cells slots Q (F0 m pc ls [.int v])) ∧
  (∀ pc ls H locs σ, decode cc pc = .ok (.return_, 1) → out = (0, 0, σ) → rt = none → va_P (dC, dI) vwCl (zWS a kI kC σ) H → va_S A s.heap H locs → W p l e R s m args below meth c H locs cells slots Q (F0 m pc ls [])) ∧
  (∀ pc idx len ls H locs σ, decode cc pc = .ok (.new idx, len) → out = (2, 0, σ) → ls.size = nL → va_P (dC, dI) vwCl (zWS a kI kC σ) H → va_S A s.heap H locs → W p l e R s m args below meth c H locs cells slots Q (F0 m pc ls []))
/-- String's own methods, called on the constants -/
def zStr (p : Program) (l : Launch) (e : Env) (R : Room) (s : State) (m : MethodId) (args : Array Value) (below : List Frame) (meth : Method) (c : Code) (cells slots : Nat) (Q : State → Prop) (a : Nat → Nat) (kI kC : ClassId) (dC : Nat → ClassId) (dI : Nat → Nat → Nat) (A : Nat → Prop) (cc : ByteArray) (nL : Nat) (own : String) (out : zR) : Prop :=
  ∀ (go : zGo) pc idx nx x L st σ ls H locs, zGS p l e R s m args below meth c cells slots Q a kI kC dC dI A nL go out → decode cc pc = .ok (.invokevirtual idx, 3) → own = RX6 → (x, idx) ∈ zSC → zpc nx = pc + 3 → zscall go nx x L st σ = some out → lv_has ls nL (zLd a L) → va_P (dC, dI) vwCl (zWS a kI kC σ) H → va_S A s.heap H locs →
    W p l e R s m args below meth c H locs cells slots Q (F0 m pc ls (st.map (zden a)))
theorem znlt {a b : Int32} (h : ¬ a < b) : b ≤ a := Int32.not_lt.mp h
theorem znle {a b : Int32} (h : b ≤ a) : ¬ a < b := Int32.not_lt.mpr h
theorem zs_if (C0 : zCtx p s m args c own cc nL a adV kI kC dC dI A Ts) (hgo : zGS p l e R s m args below meth c cells slots Q a kI kC dC dI A nL go out) {pc nx x o : Nat} {cd : ClassFile.Cond} {off : Int} {y z : Nat} {k : Int32} {sw : List (Int32 × Nat)} {L : List (Nat × zV)} {st : List zV} {σ : zS} {ls : Array Slot} {H : Heap} {locs : List Loc}
    (hd : decode cc pc = .ok (.ifCond cd off, 3)) (ho : o = 32 + (zcn cd).1) (hnx : zpc (if (zcn cd).2 then x else nx) = pc + 3) (ht : (pc : Int) + off = (zpc (if (zcn cd).2 then nx else x) : Int)) (hs : zstep call go (o, nx, x, y, z, k, sw) L st σ = some out)
    (hl : lv_has ls nL (zLd a L)) (hP : va_P (dC, dI) vwCl (zWS a kI kC σ) H) (hS : va_S A s.heap H locs) : W p l e R s m args below meth c H locs cells slots Q (F0 m pc ls (st.map (zden a))) := by
  obtain ⟨hx, hb, hml, hown, hts, hTs, hK, hX, hinj, hA⟩ := C0
  subst ho
  have kG : ∀ {t r}, go t L r σ = some out → W p l e R s m args below meth c H locs cells slots Q (F0 m (zpc t) ls (r.map (zden a))) := fun h => hgo _ _ _ _ _ _ _ h hl hP hS
  cases cd
  · simp only [zcn, Nat.reduceAdd, if_true, if_false, Bool.false_eq_true] at hnx ht hs
    simp only [zstep] at hs
    split at hs
    · exact lv_if_eq hx hb hd ht (fun h => kG (by simpa [h] using hs)) (fun h => by rw [← hnx]; exact kG (by simpa [h] using hs))
    · cases hs
  · simp only [zcn, Nat.reduceAdd, if_true, if_false, Bool.false_eq_true] at hnx ht hs
    simp only [zstep] at hs
    split at hs
    · exact lv_if_ne hx hb hd ht (fun h => kG (by simpa [h] using hs)) (fun h => by rw [← hnx]; exact kG (by simpa [h] using hs))
    · cases hs
  · simp only [zcn, Nat.reduceAdd, if_true, if_false, Bool.false_eq_true] at hnx ht hs
    simp only [zstep] at hs
    split at hs
    · exact lv_if_lt hx hb hd ht (fun h => kG (by simpa [h] using hs)) (fun h => by rw [← hnx]; exact kG (by simpa [h] using hs))
    · cases hs
  · simp only [zcn, Nat.reduceAdd, if_true, if_false, Bool.false_eq_true] at hnx ht hs
    simp only [zstep] at hs
    split at hs
    · exact lv_if_ge hx hb hd ht (fun h => kG (by simpa [znle h] using hs)) (fun h => by rw [← hnx]; exact kG (by simpa [Int32.not_le.mp h] using hs))
    · cases hs
  · simp only [zcn, Nat.reduceAdd, if_true, if_false, Bool.false_eq_true] at hnx ht hs
    simp only [zstep] at hs
    split at hs
    · exact lv_if_gt hx hb hd ht (fun h => kG (by simpa [h] using hs)) (fun h => by rw [← hnx]; exact kG (by simpa [h] using hs))
    · cases hs
  · simp only [zcn, Nat.reduceAdd, if_true, if_false, Bool.false_eq_true] at hnx ht hs
    simp only [zstep] at hs
    split at hs
    · exact lv_if_le hx hb hd ht (fun h => kG (by simpa [znle h] using hs)) (fun h => by rw [← hnx]; exact kG (by simpa [Int32.not_le.mp h] using hs))
    · cases hs
theorem zs_icmp (C0 : zCtx p s m args c own cc nL a adV kI kC dC dI A Ts) (hgo : zGS p l e R s m args below meth c cells slots Q a kI kC dC dI A nL go out) {pc nx x o : Nat} {cd : ClassFile.Cond} {off : Int} {y z : Nat} {k : Int32} {sw : List (Int32 × Nat)} {L : List (Nat × zV)} {st : List zV} {σ : zS} {ls : Array Slot} {H : Heap} {locs : List Loc}
    (hd : decode cc pc = .ok (.if_icmp cd off, 3)) (ho : o = 35 + (zcn cd).1) (hnx : zpc (if (zcn cd).2 then x else nx) = pc + 3) (ht : (pc : Int) + off = (zpc (if (zcn cd).2 then nx else x) : Int)) (hs : zstep call go (o, nx, x, y, z, k, sw) L st σ = some out)
    (hl : lv_has ls nL (zLd a L)) (hP : va_P (dC, dI) vwCl (zWS a kI kC σ) H) (hS : va_S A s.heap H locs) : W p l e R s m args below meth c H locs cells slots Q (F0 m pc ls (st.map (zden a))) := by
  obtain ⟨hx, hb, hml, hown, hts, hTs, hK, hX, hinj, hA⟩ := C0
  subst ho
  have kG : ∀ {t r}, go t L r σ = some out → W p l e R s m args below meth c H locs cells slots Q (F0 m (zpc t) ls (r.map (zden a))) := fun h => hgo _ _ _ _ _ _ _ h hl hP hS
  cases cd
  · simp only [zcn, Nat.reduceAdd, if_true, if_false, Bool.false_eq_true] at hnx ht hs
    simp only [zstep] at hs
    split at hs
    · exact lv_icmp_eq hx hb hd ht (fun h => kG (by simpa [h] using hs)) (fun h => by rw [← hnx]; exact kG (by simpa [h] using hs))
    · cases hs
  · simp only [zcn, Nat.reduceAdd, if_true, if_false, Bool.false_eq_true] at hnx ht hs
    simp only [zstep] at hs
    split at hs
    · exact lv_icmp_ne hx hb hd ht (fun h => kG (by simpa [h] using hs)) (fun h => by rw [← hnx]; exact kG (by simpa [h] using hs))
    · cases hs
  · simp only [zcn, Nat.reduceAdd, if_true, if_false, Bool.false_eq_true] at hnx ht hs
    simp only [zstep] at hs
    split at hs
    · exact lv_icmp_lt hx hb hd ht (fun h => kG (by simpa [h] using hs)) (fun h => by rw [← hnx]; exact kG (by simpa [h] using hs))
    · cases hs
  · simp only [zcn, Nat.reduceAdd, if_true, if_false, Bool.false_eq_true] at hnx ht hs
    simp only [zstep] at hs
    split at hs
    · exact lv_icmp_ge hx hb hd ht (fun h => kG (by simpa [znle h] using hs)) (fun h => by rw [← hnx]; exact kG (by simpa [Int32.not_le.mp h] using hs))
    · cases hs
  · simp only [zcn, Nat.reduceAdd, if_true, if_false, Bool.false_eq_true] at hnx ht hs
    simp only [zstep] at hs
    split at hs
    · exact lv_icmp_gt hx hb hd ht (fun h => kG (by simpa [h] using hs)) (fun h => by rw [← hnx]; exact kG (by simpa [h] using hs))
    · cases hs
  · simp only [zcn, Nat.reduceAdd, if_true, if_false, Bool.false_eq_true] at hnx ht hs
    simp only [zstep] at hs
    split at hs
    · exact lv_icmp_le hx hb hd ht (fun h => kG (by simpa [znle h] using hs)) (fun h => by rw [← hnx]; exact kG (by simpa [Int32.not_le.mp h] using hs))
    · cases hs
theorem z_ofInt {n : Int} (h1 : -1000 < n) (h2 : n < 1000) : (Int32.ofInt n).toInt = n := by
  rw [Int32.toInt_ofInt]
  simp only [Int32.size] 
  rw [Int.bmod_def]
  omega
theorem z_toInt_inj {x y : Int32} (h : x.toInt = y.toInt) : x = y := Int32.toInt_inj.mp h
theorem zs_table (C0 : zCtx p s m args c own cc nL a adV kI kC dC dI A Ts) (hgo : zGS p l e R s m args below meth c cells slots Q a kI kC dC dI A nL go out) {pc x len : Nat} {d lo hi : Int} {offs : Array Int} {sw : List (Int32 × Nat)} {v : Int32} {L : List (Nat × zV)} {r : List zV} {σ : zS} {ls : Array Slot} {H : Heap} {locs : List Loc}
    (hd : decode cc pc = .ok (.tableswitch d lo hi offs, len)) (h1 : (pc : Int) + d = (zpc x : Int)) (h2 : hi = lo + sw.length - 1) (h3 : sw.length = offs.size) (h4 : -1000 < lo) (h5 : hi < 1000)
    (h6 : (List.range sw.length).all (fun j => match sw[j]?, offs[j]? with
          | some q, some off => q.1 == Int32.ofInt (lo + j) && decide ((pc : Int) + off = (zpc q.2 : Int))
          | _, _ => false) = true)
    (hs : zsw v (fun t => go t L r σ) x sw = some out)
    (hl : lv_has ls nL (zLd a L)) (hP : va_P (dC, dI) vwCl (zWS a kI kC σ) H) (hS : va_S A s.heap H locs) : W p l e R s m args below meth c H locs cells slots Q (F0 m pc ls (.int v :: r.map (zden a))) := by
  obtain ⟨hx, hb, hml, hown, hts, hTs, hK, hX, hinj, hA⟩ := C0
  have hrow : ∀ j, j < sw.length → ∃ q off, sw[j]? = some q ∧ offs[j]? = some off ∧ q.1 = Int32.ofInt (lo + j) ∧ (pc : Int) + off = (zpc q.2 : Int) := by
    intro j hj
    have h7 := List.all_eq_true.mp h6 j (List.mem_range.mpr hj)
    split at h7
    · next q off hq ho =>
      simp only [Bool.and_eq_true, beq_iff_eq, decide_eq_true_eq] at h7
      exact ⟨q, off, hq, ho, h7.1, h7.2⟩
    · cases h7
  rcases zsw_spec hs with ⟨j, q, g1, g2, g3, -⟩ | ⟨g1, g2⟩
  · have hj := (List.getElem?_eq_some_iff.mp g1).1
    obtain ⟨q', off, e1, e2, e3, e4⟩ := hrow j hj
    rw [g1] at e1; cases e1
    have hv : v.toInt = lo + j := by rw [g2, e3]; exact z_ofInt (by omega) (by omega)
    refine lv_tableIn hx hb hd (by omega) (by omega) (off := off) ?_ e4 (hgo _ _ _ _ _ _ _ g3 hl hP hS)
    have : (v.toInt - lo).toNat = j := by omega
    rw [this]; exact e2
  · refine lv_tableOut hx hb hd ?_ h1 (hgo _ _ _ _ _ _ _ g2 hl hP hS)
    by_cases ho : v.toInt < lo ∨ hi < v.toInt
    · exact ho
    · exfalso
      have hj : (v.toInt - lo).toNat < sw.length := by omega
      obtain ⟨q', off, e1, e2, e3, e4⟩ := hrow _ hj
      refine g1 q' (List.mem_of_getElem? e1) (z_toInt_inj ?_)
      rw [e3, z_ofInt (by omega) (by omega)]
      omega
theorem zs_lookup (C0 : zCtx p s m args c own cc nL a adV kI kC dC dI A Ts) (hgo : zGS p l e R s m args below meth c cells slots Q a kI kC dC dI A nL go out) {pc x len : Nat} {d : Int} {ps : Array (Int × Int)} {sw : List (Int32 × Nat)} {v : Int32} {L : List (Nat × zV)} {r : List zV} {σ : zS} {ls : Array Slot} {H : Heap} {locs : List Loc}
    (hd : decode cc pc = .ok (.lookupswitch d ps, len)) (h1 : (pc : Int) + d = (zpc x : Int)) (h2 : (ps.toList.zip (ps.toList.drop 1)).all (fun (a, next) => a.1 < next.1) = true) (h3 : sw.length = ps.size)
    (h6 : (List.range sw.length).all (fun j => match sw[j]?, ps[j]? with
          | some q, some r => q.1 == Int32.ofInt r.1 && decide (-1000 < r.1) && decide (r.1 < 1000) && decide ((pc : Int) + r.2 = (zpc q.2 : Int))
          | _, _ => false) = true)
    (hs : zsw v (fun t => go t L r σ) x sw = some out)
    (hl : lv_has ls nL (zLd a L)) (hP : va_P (dC, dI) vwCl (zWS a kI kC σ) H) (hS : va_S A s.heap H locs) : W p l e R s m args below meth c H locs cells slots Q (F0 m pc ls (.int v :: r.map (zden a))) := by
  obtain ⟨hx, hb, hml, hown, hts, hTs, hK, hX, hinj, hA⟩ := C0
  have hrow : ∀ j, j < sw.length → ∃ q pr, sw[j]? = some q ∧ ps.toList[j]? = some pr ∧ q.1.toInt = pr.1 ∧ (pc : Int) + pr.2 = (zpc q.2 : Int) := by
    intro j hj
    have h7 := List.all_eq_true.mp h6 j (List.mem_range.mpr hj)
    split at h7
    · next q off hq ho =>
      simp only [Bool.and_eq_true, beq_iff_eq, decide_eq_true_eq] at h7
      refine ⟨q, off, hq, by rw [Array.getElem?_toList]; exact ho, ?_, h7.2⟩
      rw [h7.1.1.1]; exact z_ofInt h7.1.1.2 h7.1.2
    · cases h7
  have hlen : ps.toList.length = sw.length := by rw [Array.length_toList]; exact h3.symm
  -- the offset of the list is that of the rows
  have key : ∀ (n : Nat) (sw' : List (Int32 × Nat)) (pl : List (Int × Int)), sw'.length = n → pl.length = n → (∀ j, j < n → ∃ q pr, sw'[j]? = some q ∧ pl[j]? = some pr ∧ q.1.toInt = pr.1 ∧ (pc : Int) + pr.2 = (zpc q.2 : Int)) →
      zsw v (fun t => go t L r σ) x sw' = some out → ∃ t : Nat, (pc : Int) + Op.lookupswitch.offset pl d v.toInt = (zpc t : Int) ∧ go t L r σ = some out := by
    intro n
    induction n with
    | zero =>
      intro sw' pl e1 e2 _ hz
      cases sw' with
      | nil => cases pl with
        | nil => exact ⟨x, h1, hz⟩
        | cons _ _ => cases e2
      | cons _ _ => cases e1
    | succ n ih =>
      intro sw' pl e1 e2 hr hz
      cases sw' with
      | nil => cases e1
      | cons q0 sw' => cases pl with
        | nil => cases e2
        | cons p0 pl =>
          obtain ⟨q, pr, f1, f2, f3, f4⟩ := hr 0 (by omega)
          simp at f1 f2
          subst f1; subst f2
          obtain ⟨qx, qt⟩ := q0
          obtain ⟨pa, po⟩ := p0
          simp only [zsw] at hz
          rw [Op.lookupswitch.offset_cons]
          by_cases hv : v = qx
          · rw [if_pos hv] at hz
            rw [if_pos (by rw [hv]; exact f3.symm)]
            exact ⟨qt, f4, hz⟩
          · rw [if_neg hv] at hz
            rw [if_neg (fun h => hv (z_toInt_inj (by rw [← h]; exact f3.symm)))]
            refine ih sw' pl (by simpa using e1) (by simpa using e2) (fun j hj => ?_) hz
            obtain ⟨q', pr', k1, k2, k3, k4⟩ := hr (j + 1) (by omega)
            exact ⟨q', pr', by simpa using k1, by simpa using k2, k3, k4⟩
  obtain ⟨t, ht, hgt⟩ := key sw.length sw ps.toList rfl hlen hrow hs
  exact lv_lookup hx hb hd h2 rfl ht (hgo _ _ _ _ _ _ _ hgt hl hP hS)
end
end
section
-- every instruction of the image, then segments, methods
section
variable {p : Program} {l : Launch} {e : Env} {R : Room} {s : State} {m : MethodId} {args : Array Value} {below : List Frame} {meth : Method} {c : Code} {cells slots : Nat} {Q : State → Prop}
variable {a adV : Nat → Nat} {kI kC : ClassId} {dC : Nat → ClassId} {dI : Nat → Nat → Nat} {A : Nat → Prop} {own : String} {cc : ByteArray} {nL : Nat} {rt : Option FieldType} {Ts : List Cond} {out : zR} {call : zCall} {go : zGo}
set_option maxHeartbeats 4000000 in
theorem zstep_sound (C0 : zCtx p s m args c own cc nL a adV kI kC dC dI A Ts) (hroom : cells ≤ R.cells ∧ slots ≤ R.slots) (hR : 1 ≤ R.frames ∧ 40 ≤ R.locals) (hgo : zGS p l e R s m args below meth c cells slots Q a kI kC dC dI A nL go out)
    (hcall : ∀ mi as σ r, call mi as σ = some r → r.1 < 2 → zCon l a adV kI kC dC dI R mi as σ r) (hret : zRet p l e R s m args below meth c cells slots Q a kI kC dC dI A cc rt nL out) (hstr : zStr p l e R s m args below meth c cells slots Q a kI kC dC dI A cc nL own out)
    {pc len : Nat} {i : Instr} {op : zO} {L : List (Nat × zV)} {st : List zV} {σ : zS} {ls : Array Slot} {H : Heap} {locs : List Loc} (hd : decode cc pc = .ok (i, len)) (hok : zok own rt nL pc i len op = true)
    (hs : zstep call go op L st σ = some out) (hl : lv_has ls nL (zLd a L)) (hP : va_P (dC, dI) vwCl (zWS a kI kC σ) H) (hS : va_S A s.heap H locs) : W p l e R s m args below meth c H locs cells slots Q (F0 m pc ls (st.map (zden a))) := by
  have C1 := C0
  obtain ⟨hx, hb, hml, hown, hts, hTs, hK, hX, hinj, hA⟩ := C1
  obtain ⟨o, nx, x, y, z, k, sw⟩ := op
  have kk : ∀ {L' st' σ' n'}, go nx L' st' σ' = some out → zpc nx = n' → lv_has ls nL (zLd a L') → va_P (dC, dI) vwCl (zWS a kI kC σ') H → W p l e R s m args below meth c H locs cells slots Q (F0 m n' ls (st'.map (zden a))) := fun h hn hl hP => by rw [← hn]; exact hgo _ _ _ _ _ _ _ h hl hP hS
  simp only [zok] at hok
  split at hok <;> try simp only [Bool.and_eq_true, beq_iff_eq, decide_eq_true_eq, Bool.or_eq_true] at hok
  · obtain ⟨⟨⟨rfl, rfl⟩, h1⟩, rfl⟩ := hok
    exact lv_iconst hx hb hd rfl (kk hs h1 hl hP)
  · obtain ⟨⟨⟨rfl, rfl⟩, h1⟩, rfl⟩ := hok
    exact lv_bipush hx hb hd rfl (kk hs h1 hl hP)
  · obtain ⟨⟨⟨rfl, rfl⟩, h1⟩, rfl⟩ := hok
    exact lv_sipush hx hb hd rfl (kk hs h1 hl hP)
  · obtain ⟨⟨⟨rfl, rfl⟩, h1⟩, rfl⟩ := hok
    simp only [zstep] at hs
    split at hs
    · next v hv => exact lv_iload_n hx hb hd rfl (zget_ls hl hv) (kk hs h1 hl hP)
    · cases hs
  · obtain ⟨⟨⟨rfl, rfl⟩, h1⟩, rfl⟩ := hok
    simp only [zstep] at hs
    split at hs
    · next v hv => exact lv_iload hx hb hd (zget_ls hl hv) (kk hs h1 hl hP)
    · cases hs
  · obtain ⟨⟨⟨rfl, rfl⟩, h1⟩, rfl⟩ := hok
    simp only [zstep] at hs
    split at hs
    · next v hv => exact lv_aload_n hx hb hd rfl (zget_ls hl hv) (kk hs h1 hl hP)
    · cases hs
  · obtain ⟨⟨⟨rfl, rfl⟩, h1⟩, rfl⟩ := hok
    simp only [zstep] at hs
    split at hs
    · next v hv => exact lv_aload hx hb hd (zget_ls hl hv) (kk hs h1 hl hP)
    · cases hs
  · obtain ⟨⟨⟨rfl, rfl⟩, h1⟩, rfl⟩ := hok
    simp only [zstep] at hs
    split at hs
    · next v hv => exact lv_lload_n hx hb hd rfl (zget_ls hl hv) (kk hs h1 hl hP)
    · cases hs
  · obtain ⟨⟨⟨⟨rfl, rfl⟩, h1⟩, rfl⟩, hn⟩ := hok
    simp only [zstep] at hs
    split at hs
    · next v r => exact lv_istore_n hx hb hd rfl hl hn (zLd_put a L _ (.inl v)).symm (fun ls' hl' => by rw [← h1]; exact hgo _ _ _ _ _ _ _ hs hl' hP hS)
    · cases hs
  · obtain ⟨⟨⟨⟨rfl, rfl⟩, h1⟩, rfl⟩, hn⟩ := hok
    simp only [zstep] at hs
    split at hs
    · next v r => exact lv_istore hx hb hd hl hn (zLd_put a L _ (.inl v)).symm (fun ls' hl' => by rw [← h1]; exact hgo _ _ _ _ _ _ _ hs hl' hP hS)
    · cases hs
  · obtain ⟨⟨⟨⟨rfl, rfl⟩, h1⟩, rfl⟩, rfl⟩ := hok
    simp only [zstep] at hs
    split at hs
    · next v hv =>
      have hmem : (x, Value.int v) ∈ zLd a L := List.mem_map.mpr ⟨_, zget_mem hv, rfl⟩
      obtain ⟨k0, hk0⟩ := List.mem_iff_getElem?.mp hmem
      have hlt : x < nL := by rw [← hl.1]; exact (Array.getElem?_eq_some_iff.mp (zget_ls hl hv)).1
      exact lv_iinc hx hb hd hl hk0 rfl hlt (zLd_put a L _ (.inl _)).symm (fun ls' hl' => by rw [← h1]; exact hgo _ _ _ _ _ _ _ hs hl' hP hS)
    · cases hs
  · obtain ⟨⟨⟨rfl, rfl⟩, rfl⟩, h1⟩ := hok
    simp only [zstep] at hs
    split at hs
    · exact lv_iadd hx hb hd (kk hs h1 hl hP)
    · cases hs
  · obtain ⟨⟨⟨rfl, rfl⟩, rfl⟩, h1⟩ := hok
    simp only [zstep] at hs
    split at hs
    · exact lv_isub hx hb hd (kk hs h1 hl hP)
    · cases hs
  · obtain ⟨⟨⟨rfl, rfl⟩, rfl⟩, h1⟩ := hok
    simp only [zstep] at hs
    split at hs
    · exact lv_imul hx hb hd (kk hs h1 hl hP)
    · cases hs
  · obtain ⟨⟨⟨rfl, rfl⟩, rfl⟩, h1⟩ := hok
    simp only [zstep] at hs
    split at hs
    · exact lv_iand hx hb hd (kk hs h1 hl hP)
    · cases hs
  · obtain ⟨⟨⟨rfl, rfl⟩, rfl⟩, h1⟩ := hok
    simp only [zstep] at hs
    split at hs
    · exact lv_ior hx hb hd (kk hs h1 hl hP)
    · cases hs
  · obtain ⟨⟨⟨rfl, rfl⟩, rfl⟩, h1⟩ := hok
    simp only [zstep] at hs
    split at hs
    · exact lv_ishl hx hb hd (kk hs h1 hl hP)
    · cases hs
  · obtain ⟨⟨⟨rfl, rfl⟩, rfl⟩, h1⟩ := hok
    simp only [zstep] at hs
    split at hs
    · exact lv_ineg hx hb hd (kk hs h1 hl hP)
    · cases hs
  · obtain ⟨⟨⟨rfl, rfl⟩, rfl⟩, h1⟩ := hok
    simp only [zstep] at hs
    split at hs
    · exact lv_i2c hx hb hd rfl (kk hs h1 hl hP)
    · cases hs
  · obtain ⟨⟨⟨rfl, rfl⟩, rfl⟩, h1⟩ := hok
    simp only [zstep] at hs
    split at hs
    all_goals first | omega | exact lv_lshr hx hb hd rfl (kk hs h1 hl hP) | cases hs
  · obtain ⟨⟨⟨rfl, rfl⟩, rfl⟩, h1⟩ := hok
    simp only [zstep] at hs
    split at hs
    all_goals first | omega | exact lv_lushr hx hb hd rfl (kk hs h1 hl hP) | cases hs
  · obtain ⟨⟨⟨rfl, rfl⟩, rfl⟩, h1⟩ := hok
    simp only [zstep] at hs
    split at hs
    all_goals first | omega | exact lv_land hx hb hd (kk hs h1 hl hP) | cases hs
  · obtain ⟨⟨⟨rfl, rfl⟩, rfl⟩, h1⟩ := hok
    simp only [zstep] at hs
    split at hs
    all_goals first | omega | exact lv_l2i hx hb hd rfl (kk hs h1 hl hP) | cases hs
  · obtain ⟨⟨⟨h0, rfl⟩, h1⟩, h2⟩ := hok
    exact zs_if C0 hgo hd h0 h1 h2 hs hl hP hS
  · obtain ⟨⟨⟨h0, rfl⟩, h1⟩, h2⟩ := hok
    exact zs_icmp C0 hgo hd h0 h1 h2 hs hl hP hS
  · obtain ⟨⟨rfl, rfl⟩, h1⟩ := hok
    simp only [zstep] at hs
    exact lv_goto hx hb hd h1 (hgo _ _ _ _ _ _ _ hs hl hP hS)
  · obtain ⟨⟨⟨⟨⟨⟨⟨rfl, rfl⟩, h1⟩, h2⟩, h3⟩, h4⟩, h5⟩, h6⟩ := hok
    simp only [zstep] at hs
    split at hs
    · exact zs_table C0 hgo hd h1 h2 h3 h4 h5 h6 hs hl hP hS
    · cases hs
  · obtain ⟨⟨⟨⟨⟨rfl, rfl⟩, h1⟩, h2⟩, h3⟩, h6⟩ := hok
    simp only [zstep] at hs
    split at hs
    · exact zs_lookup C0 hgo hd h1 h2 h3 h6 hs hl hP hS
    · cases hs
  · obtain ⟨⟨⟨rfl, rfl⟩, h1⟩, h2⟩ := hok
    simp only [zstep] at hs
    rcases h2 with h2 | h2
    · exact zs_get C0 hgo hd h1 h2 hs hl hP hS
    · exact zs_get C0 hgo hd h1 h2 hs hl hP hS
  · obtain ⟨⟨⟨⟨h0, rfl⟩, h1⟩, h2⟩, h4⟩ := hok
    rcases h0 with ⟨rfl, h0⟩ | ⟨rfl, h0⟩
    · simp only [zstep] at hs
      split at hs
      · next v j r =>
        split at hs
        · next hwr =>
          have h3 : narrow (zty x y) (.int v) = .int v ∧ fits (zty x y) (.int v) = true := by rw [h0]; exact ⟨rfl, rfl⟩
          rcases h2 with h2 | h2
          · exact zs_put C0 hgo hd h1 h2 h3 h4 hwr hs hl hP hS
          · exact zs_put C0 hgo hd h1 h2 h3 h4 hwr hs hl hP hS
        · cases hs
      · cases hs
    · simp only [zstep] at hs
      split at hs
      · next v j r =>
        split at hs
        · next hwr =>
          split at hs
          · next hv =>
            have h3 : narrow (zty x y) (.int v) = .int v ∧ fits (zty x y) (.int v) = true := by rw [h0]; exact znarrow_bool hv
            rcases h2 with h2 | h2
            · exact zs_put C0 hgo hd h1 h2 h3 h4 hwr hs hl hP hS
            · exact zs_put C0 hgo hd h1 h2 h3 h4 hwr hs hl hP hS
          · cases hs
        · cases hs
      · cases hs
  · obtain ⟨⟨⟨rfl, rfl⟩, rfl⟩, h1⟩ := hok
    simp only [zstep] at hs
    exact zs_ald C0 hgo (Or.inl ⟨rfl, hd⟩) h1 hs hl hP hS
  · obtain ⟨⟨⟨rfl, rfl⟩, rfl⟩, h1⟩ := hok
    simp only [zstep] at hs
    exact zs_ald C0 hgo (Or.inr ⟨rfl, hd⟩) h1 hs hl hP hS
  · obtain ⟨⟨⟨rfl, rfl⟩, rfl⟩, h1⟩ := hok
    simp only [zstep] at hs
    exact zs_ast C0 hgo (Or.inl ⟨rfl, hd⟩) h1 hs hl hP hS
  · obtain ⟨⟨⟨rfl, rfl⟩, rfl⟩, h1⟩ := hok
    simp only [zstep] at hs
    exact zs_ast C0 hgo (Or.inr ⟨rfl, hd⟩) h1 hs hl hP hS
  · obtain ⟨⟨rfl, h1⟩, h2⟩ := hok
    rcases h2 with ⟨ho, h2⟩ | ⟨⟨rfl, h2⟩, h3⟩
    · have hs2 : zinv call go nx x y sw L st σ = some out ∨ zinvV call go nx x y sw L st σ = some out := by
        rcases ho with rfl | rfl
        · exact Or.inl hs
        · exact Or.inr hs
      split at h2
      · next k0 ci =>
        simp only [Bool.and_eq_true, beq_iff_eq, decide_eq_true_eq] at h2
        exact zs_inv C0 hroom hgo hcall (Or.inl ⟨hd, k0, ci, rfl, h2.1, h2.2⟩) h1 hs2 hl hP hS
      · cases h2
    · simp only [zstep] at hs
      exact hstr go _ _ _ _ _ _ _ _ _ _ hgo hd h2 (by simpa using h3) h1 hs hl hP hS
  · obtain ⟨⟨rfl, h1⟩, h2⟩ := hok
    rcases h2 with ⟨⟨ho, h2⟩, h3⟩ | ⟨rfl, h2⟩
    · have hs2 : zinv call go nx x y sw L st σ = some out ∨ zinvV call go nx x y sw L st σ = some out := by
        rcases ho with rfl | rfl
        · exact Or.inl hs
        · exact Or.inr hs
      have hsw : sw = [] := by simpa using h2
      split at h3
      · next w i' m' s' ci n hz =>
        simp only [Bool.and_eq_true, beq_iff_eq] at h3
        obtain ⟨⟨⟨⟨rfl, rfl⟩, rfl⟩, rfl⟩, rfl⟩ := h3
        exact zs_inv C0 hroom hgo hcall (Or.inr ⟨hd, hsw, ci, hz⟩) h1 hs2 hl hP hS
      · cases h3
    · simp only [zstep] at hs
      exact zs_copy C0 hR hgo hd h2 h1 hs hl hP hS
  · obtain ⟨⟨rfl, rfl⟩, h1⟩ := hok
    simp only [zstep] at hs
    split at hs
    · next v =>
      rcases h1 with ⟨rfl, h1⟩ | ⟨rfl, h1⟩
      · rw [if_neg (by decide)] at hs
        cases hs
        exact hret.1 _ _ _ _ _ _ hd rfl (Or.inl h1) hP hS
      · rw [if_pos rfl] at hs
        split at hs
        · next hv => cases hs; exact hret.1 _ _ _ _ _ _ hd rfl (Or.inr ⟨h1, hv⟩) hP hS
        · cases hs
    · cases hs
  · obtain ⟨⟨rfl, rfl⟩, h1⟩ := hok
    simp only [zstep] at hs
    split at hs
    · cases hs; exact hret.2.1 _ _ _ _ _ hd rfl h1 hP hS
    · cases hs
  · obtain ⟨⟨rfl, rfl⟩, h1⟩ := hok
    simp only [zstep] at hs
    split at hs
    · next v r =>
      split at hs
      · next hc => exact lv_dup hx hb hd ((zcat_den a v).trans hc) (kk hs h1 hl hP)
      · cases hs
    · cases hs
  · obtain ⟨⟨rfl, rfl⟩, h1⟩ := hok
    simp only [zstep] at hs
    split at hs
    · next v r =>
      split at hs
      · next hc => exact lv_pop hx hb hd ((zcat_den a v).trans hc) (kk hs h1 hl hP)
      · cases hs
    · cases hs
  · obtain ⟨⟨rfl, rfl⟩, h1⟩ := hok
    simp only [zstep] at hs
    split at hs
    · next v w r =>
      split at hs
      · next hc => exact lv_dup2_11 hx hb hd ((zcat_den a v).trans hc.1) ((zcat_den a w).trans hc.2) (kk hs h1 hl hP)
      · cases hs
    · cases hs
  · obtain ⟨⟨rfl, rfl⟩, h1⟩ := hok
    simp only [zstep] at hs
    split at hs
    · next j r =>
      split at hs
      · next n hn =>
        exact va_alen (D := (dC, dI)) (cl := vwCl) hx hb hK hP j 0 (zWS_get (zarr_spec hn)) (ty := .int) rfl rfl hd (kk hs h1 hl hP)
      · cases hs
    · cases hs
  · obtain ⟨⟨⟨⟨⟨rfl, rfl⟩, h1⟩, rfl⟩, rfl⟩, rfl⟩ := hok
    simp only [zstep] at hs
    exact lv_ldc2 hx hb hown (hts _ (hTs _ (zin_mem zc_long))) hd (kk hs h1 hl hP)
  · obtain ⟨⟨⟨⟨rfl, rfl⟩, h1⟩, rfl⟩, h2⟩ := hok
    simp only [zstep] at hs
    split at hs
    · next hy =>
      rcases h2 with rfl | ⟨rfl, h2⟩
      · exact absurd hy (by decide)
      · exact va_ldcS hx hb hown (hX.2.1 y x h2) hd (kk hs h1 hl hP)
    · cases hs
  · subst hok
    simp only [zstep] at hs
    split at hs
    · cases hs; exact hret.2.2 _ _ _ _ _ _ _ hd rfl hl.1 hP hS
    · cases hs
  · cases hok
end
end
section
-- segments, bodies, methods
theorem zcut_all : zMT.all (fun e => e.1.2.2.2.2.2.all (fun q => decide (q.1 < 10000))) = true := by decide +kernel
section
variable {p : Program} {l : Launch} {e : Env} {R : Room} {s : State} {m : MethodId} {args : Array Value} {below : List Frame} {meth : Method} {c : Code} {cells slots : Nat} {Q : State → Prop}
variable {a adV : Nat → Nat} {kI kC : ClassId} {dC : Nat → ClassId} {dI : Nat → Nat → Nat} {A : Nat → Prop} {own : String} {cc : ByteArray} {nL : Nat} {rt : Option FieldType} {Ts : List Cond} {out : zR} {call : zCall}
theorem zseg_sound (C0 : zCtx p s m args c own cc nL a adV kI kC dC dI A Ts) (hroom : cells ≤ R.cells ∧ slots ≤ R.slots) (hR : 1 ≤ R.frames ∧ 40 ≤ R.locals)
    (hcall : ∀ mi as σ r, call mi as σ = some r → r.1 < 2 → zCon l a adV kI kC dC dI R mi as σ r) (hret : zRet p l e R s m args below meth c cells slots Q a kI kC dC dI A cc rt nL out) (hstr : zStr p l e R s m args below meth c cells slots Q a kI kC dC dI A cc nL own out)
    {tab : List (Nat × zO)} {cut : List (Nat × List Nat)} (htab : ∀ q ∈ tab, q.1 < 10000 ∧ ∃ j len, decode cc q.1 = .ok (j, len) ∧ zok own rt nL q.1 j len q.2 = true) {kont : Nat → List zV → zS → Option zR}
    (hk : ∀ t ix vs σ ls H locs, kont t vs σ = some out → zlook cut t = some ix → ix.length = vs.length → lv_has ls nL (zLd a (ix.zip vs)) → va_P (dC, dI) vwCl (zWS a kI kC σ) H → va_S A s.heap H locs → W p l e R s m args below meth c H locs cells slots Q (F0 m t ls [])) :
    ∀ f, zGS p l e R s m args below meth c cells slots Q a kI kC dC dI A nL (zseg tab cut call kont f) out := by
  intro f
  induction f with
  | zero => intro pc L st σ ls H locs hs; cases hs
  | succ f ih =>
    intro pc L st σ ls H locs hs hl hP hS
    simp only [zseg] at hs
    by_cases h : 10000 ≤ pc
    · rw [if_pos h] at hs
      have e1 : zpc pc = pc - 10000 := by rw [zpc, if_pos h]
      rw [e1]
      split at hs
      · next ix hix =>
        split at hs
        · next vs hvs =>
          obtain ⟨h1, h2⟩ := zpick_ls hl hvs
          exact hk _ _ _ _ _ _ _ hs hix h2 h1 hP hS
        · cases hs
      · cases hs
    · rw [if_neg h] at hs
      have e1 : zpc pc = pc := by rw [zpc, if_neg h]
      rw [e1]
      split at hs
      · cases hs
      · next op hop =>
        obtain ⟨-, j, len, hd, hok⟩ := htab _ (zlook_mem hop)
        exact zstep_sound C0 hroom hR ih hcall hret hstr hd hok hs hl hP hS
theorem zexec_sound (C0 : zCtx p s m args c own cc nL a adV kI kC dC dI A Ts) (hroom : cells ≤ R.cells ∧ slots ≤ R.slots) (hR : 1 ≤ R.frames ∧ 40 ≤ R.locals)
    (hcall : ∀ mi as σ r, call mi as σ = some r → r.1 < 2 → zCon l a adV kI kC dC dI R mi as σ r) (hret : zRet p l e R s m args below meth c cells slots Q a kI kC dC dI A cc rt nL out) (hstr : zStr p l e R s m args below meth c cells slots Q a kI kC dC dI A cc nL own out)
    {tab : List (Nat × zO)} {cut : List (Nat × List Nat)} (htab : ∀ q ∈ tab, q.1 < 10000 ∧ ∃ j len, decode cc q.1 = .ok (j, len) ∧ zok own rt nL q.1 j len q.2 = true) (hcut : ∀ q ∈ cut, q.1 < 10000) :
    ∀ n pc ix vs σ ls H locs, zexec tab cut call n pc vs σ = some out → zlook cut pc = some ix → ix.length = vs.length → lv_has ls nL (zLd a (ix.zip vs)) → va_P (dC, dI) vwCl (zWS a kI kC σ) H → va_S A s.heap H locs → W p l e R s m args below meth c H locs cells slots Q (F0 m pc ls []) := by
  intro n
  induction n with
  | zero => intro pc ix vs σ ls H locs hs; cases hs
  | succ n ih =>
    intro pc ix vs σ ls H locs hs hix hlen hl hP hS
    simp only [zexec, hix, hlen, if_true] at hs
    have hpc : pc < 10000 := hcut _ (zlook_mem hix)
    have k1 := zseg_sound C0 hroom hR hcall hret hstr htab (cut := cut) (fun t ix vs σ ls H locs h1 h2 h3 h4 h5 h6 => ih t ix vs σ ls H locs h1 h2 h3 h4 h5 h6) 400 pc _ [] σ ls H locs hs hl hP hS
    rw [show zpc pc = pc by rw [zpc, if_neg (by omega)]] at k1
    exact k1
end
/-- the room of a method that may call d deep -/
def zrm (d : Nat) : Room := { frames := d + 12, cells := 0, slots := 0, locals := 40 * d + 400 }
/-- String's own methods on the constants, wherever the tokens call them -/
def zStrAll (l : Launch) (a adV : Nat → Nat) (kI kC : ClassId) (dC : Nat → ClassId) (dI : Nat → Nat → Nat) : Prop :=
  ∀ (p : Program) (e : Env) (R : Room) (s : State) (m : MethodId) (args : Array Value) (below : List Frame) (meth : Method) (c : Code) (cells slots : Nat) (Q : State → Prop) (A : Nat → Prop) (cc : ByteArray) (nL : Nat) (Ts : List Cond) (out : zR),
    zCtx p s m args c RX6 cc nL a adV kI kC dC dI A Ts → cells ≤ R.cells ∧ slots ≤ R.slots → 12 ≤ R.frames ∧ 400 ≤ R.locals → zStr p l e R s m args below meth c cells slots Q a kI kC dC dI A cc nL RX6 out
theorem zStr_any {p : Program} {l : Launch} {e : Env} {R : Room} {s : State} {m : MethodId} {args : Array Value} {below : List Frame} {meth : Method} {c : Code} {cells slots : Nat} {Q : State → Prop} {a adV : Nat → Nat} {kI kC : ClassId} {dC : Nat → ClassId} {dI : Nat → Nat → Nat} {A : Nat → Prop} {own : String} {cc : ByteArray} {nL : Nat} {Ts : List Cond} {out : zR}
    (H0 : zStrAll l a adV kI kC dC dI) (C0 : zCtx p s m args c own cc nL a adV kI kC dC dI A Ts) (hroom : cells ≤ R.cells ∧ slots ≤ R.slots) (hR : 12 ≤ R.frames ∧ 400 ≤ R.locals) : zStr p l e R s m args below meth c cells slots Q a kI kC dC dI A cc nL own out := by
  by_cases h : own = RX6
  · subst h
    exact H0 p e R s m args below meth c cells slots Q A cc nL Ts out C0 hroom hR
  · intro go pc idx nx x L st σ ls H locs _ _ h2
    exact absurd h2 h
theorem zplaces_args (a : Nat → Nat) : ∀ (as : List zV) (k : Nat), lv_args k (as.map (zden a)) = zLd a ((zplaces k as).zip as) := by
  intro as
  induction as with
  | nil => intro k; rfl
  | cons v r ih =>
    intro k
    simp only [List.map_cons, lv_args, zplaces, List.zip_cons_cons, zLd, zcat_den]
    rw [ih]
    rfl
theorem zwords_sl (a : Nat → Nat) : ∀ (as : List zV), (lg_sl (as.map (zden a))).length = zwords as := by
  intro as
  induction as with
  | nil => rfl
  | cons v r ih =>
    simp only [List.map_cons, lg_sl, List.flatMap_cons, List.length_append, zwords] at ih ⊢
    rw [ih]
    congr 1
    rcases v with x | x | x <;> rfl
end
section
-- a method of the image does what the small machine says
set_option maxRecDepth 20000 in
theorem zroom1 {d n L : Nat} (h : 40 * (d + 1) + 400 ≤ L) (hn : n ≤ 20) : 8 + (n + 11) + (40 * d + 400) ≤ L := by omega
theorem zroom2 {d F : Nat} (h : d + 1 + 12 ≤ F) : d + 12 + 1 ≤ F := by omega
theorem zroom3 (d : Nat) : 1 ≤ d + 12 ∧ 12 ≤ d + 12 := by omega
theorem zroom4 (d : Nat) : 40 ≤ 40 * d + 400 ∧ 400 ≤ 40 * d + 400 := by omega
theorem zM_sound (l : Launch) (a adV : Nat → Nat) (kI kC : ClassId) (dC : Nat → ClassId) (dI : Nat → Nat → Nat) (hinj : ∀ i j, i < zIMG.length → j < zIMG.length → a i = a j → i = j) (hstr : zStrAll l a adV kI kC dC dI) :
    ∀ d mi as σ r, zM d mi as σ = some r → r.1 < 2 → ∀ R : Room, (zrm d).frames ≤ R.frames → (zrm d).locals ≤ R.locals → zCon l a adV kI kC dC dI R mi as σ r := by
  intro d
  induction d with
  | zero => intro mi as σ r h; cases h
  | succ d ih =>
    intro mi as σ r h hr2 R hRf hRl C y n rt tab cut i b hmt hcode
    simp only [zM, hmt] at h
    split at h
    case isFalse => cases h
    next hpl =>
    obtain ⟨C', y', n', rt2, tab', cut', i', b', he, hcode', hplain, hy2, hy3, hn20, htab⟩ := zmt_spec (zk_all _ (List.mem_of_getElem? hmt))
    cases he
    rw [hcode] at hcode'
    cases hcode'
    have hcut : ∀ q ∈ cut, q.1 < 10000 := by
      have h1 := List.all_eq_true.mp zcut_all _ (List.mem_of_getElem? hmt)
      intro q hq
      exact of_decide_eq_true (List.all_eq_true.mp h1 q hq)
    have hRf' : d + 1 + 12 ≤ R.frames := hRf
    have e0 : (zrm (d + 1)).locals = 40 * (d + 1) + 400 := rfl
    rw [e0] at hRl
    have e1 : (zrm d).frames = d + 12 := rfl
    have e2 : (zrm d).locals = 40 * d + 400 := rfl
    refine ⟨zrm d, rfl, rfl, by rw [e1]; exact zroom2 hRf', by rw [e2]; exact zroom1 hRl hn20, ?_⟩
    refine Met.ofW (cc := b) (maxL := n) (ret := rt) hplain rfl ?_
    intro p e s m args below meth c s₁ B hml hv
    obtain ⟨rfl, hP, hK, hX⟩ := hv
    have hx := B.exec
    have hb := B.bytes
    have hr := B.returns
    have hts := atoms_spec (ws := zws y b n rt) B.pre
    have hown : s.vm.findClass C = some m.cls := by rw [← hy2]; exact findClass_of_methodNamed B.named
    have hlocks := B.notSynchronized
    have C0 : zCtx p s m (as.map (zden a)).toArray c C b n a adV kI kC dC dI (zA a) (zws y b n rt) := ⟨hx, hb, hml, hown, hts, fun w h => List.mem_cons_of_mem _ h, hK, hX, hinj, fun _ h => h⟩
    have hret : zRet p l e (headSpec (zws y b n rt) (zrm d)).room s m (as.map (zden a)).toArray below meth c 0 0 (MQ below (zQc a kI kC dC dI r) (as.map (zden a)).toArray s 0 0 (zA a)) a kI kC dC dI (zA a) b rt n r := by
      refine ⟨fun pc ls H locs v σ' hd ho hrt hP hS => ?_, fun pc ls H locs σ' hd ho hrt hP hS => ?_, fun pc idx len ls H locs σ' hd ho => ?_⟩
      · subst ho
        rcases hrt with hrt | ⟨hrt, hv⟩
        · exact W.iret (v := v) hx hb (by rw [hr, hrt]) (fun t ht hW => ⟨rfl, by rw [ht]; exact hP, hS.F ht⟩) hS.2.2 hd
        · exact W.zret (v := v) (ty := .boolean) hx hb (by rw [hr, hrt]) (znarrow_bool hv).1 (fun t ht hW => ⟨rfl, by rw [ht]; exact hP, hS.F ht⟩) hS.2.2 hd
      · subst ho
        exact W.vret hx hb (by rw [hr, hrt]) (fun t ht hW => ⟨rfl, by rw [ht]; exact hP, hS.F ht⟩) hS.2.2 hd
      · subst ho; exact absurd hr2 (Nat.lt_irrefl 2)
    have hl := lv_entry (as.map (zden a)) (n := n) (by rw [zwords_sl]; exact hpl.2)
    rw [lg_entry_eq]
    generalize (lg_sl (as.map (zden a)) ++ List.replicate (n - (lg_sl (as.map (zden a))).length) Slot.unset).toArray = ls at hl ⊢
    rw [zplaces_args] at hl
    have hlen : (zplaces 0 as).length = as.length := by
      have : ∀ (k : Nat) (v : List zV), (zplaces k v).length = v.length := by
        intro k v
        induction v generalizing k with
        | nil => rfl
        | cons x r ih => simp [zplaces, ih]
      exact this 0 as
    exact zexec_sound (R := (headSpec (zws y b n rt) (zrm d)).room) (cells := 0) (slots := 0) C0 ⟨Nat.zero_le _, Nat.zero_le _⟩ ⟨(zroom3 d).1, (zroom4 d).1⟩
      (fun mi as σ r h h2 => ih mi as σ r h h2 _ (Nat.le_refl _) (Nat.le_refl _)) hret (zStr_any hstr C0 ⟨Nat.zero_le _, Nat.zero_le _⟩ ⟨(zroom3 d).2, (zroom4 d).2⟩) htab hcut zFUEL 0 _ as σ ls s.heap [] h hpl.1 hlen hl hP va_S.rf
end
section
-- steps of the small machine, for the equations
/-- a slot is written -/
def wr (σ : zS) (c k : Nat) (v : Int32) : zS := zset σ c (upd (σ c) k v)
/-- the first n of cell c go to cell d -/
def wcp (σ : zS) (c d n : Nat) : zS := zset σ d (va_cpy (σ c) (σ d) 0 0 n)
theorem zM_eq {d mi : Nat} {as : List zV} {σ : zS} {R : String} {y : MethodName} {n : Nat} {r : Option FieldType} {tab : List (Nat × zO)} {cut : List (Nat × List Nat)} {i : Nat} (h : zMT[mi]? = some ((R, y, n, r, tab, cut), i)) (h1 : zlook cut 0 = some (zplaces 0 as)) (h2 : zwords as ≤ n) : zM (d + 1) mi as σ = zexec tab cut (zM d) zFUEL 0 as σ := by
  simp only [zM, h, h1, h2, and_self, if_true]
section
variable {tab : List (Nat × zO)} {cut : List (Nat × List Nat)} {call : zCall} {kont : Nat → List zV → zS → Option zR} {go : zGo} {f n pc nx x y z : Nat} {k : Int32} {sw : List (Int32 × Nat)} {L : List (Nat × zV)} {st r : List zV} {σ : zS} {T T2 : Option zR} {op : zO}
theorem ze {vs : List zV} {ix : List Nat} (hl : zlook cut pc = some ix) (hn : ix.length = vs.length) (hz : ix.zip vs = L) (h : zseg tab cut call (zexec tab cut call n) 400 pc L [] σ = T) : zexec tab cut call (n + 1) pc vs σ = T := by
  simp only [zexec, hl, hn, if_true, hz, h]
theorem zx (hp : Nat.ble 10000 pc = false) (ho : zlook tab pc = some op) (h : zstep call (zseg tab cut call kont f) op L st σ = T) : zseg tab cut call kont (f + 1) pc L st σ = T := by
  have hn : ¬ 10000 ≤ pc := fun h9 => by rw [Nat.ble_eq_true_of_le h9] at hp; cases hp
  simp only [zseg, if_neg hn, ho, h]
theorem zxc {t : Nat} {vs : List zV} {ix : List Nat} (hp : Nat.ble 10000 pc = true) (ht : pc - 10000 = t) (hl : zlook cut t = some ix) (hv : zpick L ix = some vs) : zseg tab cut call kont (f + 1) pc L [] σ = kont t vs σ := by
  simp only [zseg, if_pos (Nat.le_of_ble_eq_true hp), ht, hl, hv]
theorem y0 (h : go nx L (.inl k :: st) σ = T) : zstep call go (0, nx, x, y, z, k, sw) L st σ = T := h
theorem y1 {v : Int32} (hg : zget L x = some (.inl v)) (h : go nx L (.inl v :: st) σ = T) : zstep call go (1, nx, x, y, z, k, sw) L st σ = T := by simp only [zstep, hg, h]
theorem y2 {v : Nat} (hg : zget L x = some (.inr (.inr v))) (h : go nx L (.inr (.inr v) :: st) σ = T) : zstep call go (2, nx, x, y, z, k, sw) L st σ = T := by simp only [zstep, hg, h]
theorem y3 {v : Int64} (hg : zget L x = some (.inr (.inl v))) (h : go nx L (.inr (.inl v) :: st) σ = T) : zstep call go (3, nx, x, y, z, k, sw) L st σ = T := by simp only [zstep, hg, h]
theorem y4 {v : Int32} {L' : List (Nat × zV)} (hL : zput L x (.inl v) = L') (h : go nx L' r σ = T) : zstep call go (4, nx, x, y, z, k, sw) L (.inl v :: r) σ = T := by simp only [zstep, hL, h]
theorem y6 {v : Int32} {L' : List (Nat × zV)} (hg : zget L x = some (.inl v)) (hL : zput L x (.inl (v + k)) = L') (h : go nx L' st σ = T) : zstep call go (6, nx, x, y, z, k, sw) L st σ = T := by simp only [zstep, hg, hL, h]
theorem y7 {a b v : Int32} (hv : zbin y a b = v) (h : go nx L (.inl v :: r) σ = T) : zstep call go (7, nx, x, y, z, k, sw) L (.inl b :: .inl a :: r) σ = T := by subst hv; exact h
theorem y8 {a v : Int32} (hv : zun y a = v) (h : go nx L (.inl v :: r) σ = T) : zstep call go (8, nx, x, y, z, k, sw) L (.inl a :: r) σ = T := by subst hv; exact h
theorem y90 {b : Int32} {a : Int64} (h : go nx L (.inr (.inl (a >>> (b.toInt64 &&& 63))) :: r) σ = T) : zstep call go (9, nx, x, 0, z, k, sw) L (.inl b :: .inr (.inl a) :: r) σ = T := h
theorem y91 {b : Int32} {a : Int64} (h : go nx L (.inr (.inl ((a.toUInt64 >>> (b.toInt64.toUInt64 &&& Int64.toUInt64 63)).toInt64)) :: r) σ = T) : zstep call go (9, nx, x, 1, z, k, sw) L (.inl b :: .inr (.inl a) :: r) σ = T := h
theorem y92 {a b : Int64} (h : go nx L (.inr (.inl (a &&& b)) :: r) σ = T) : zstep call go (9, nx, x, 2, z, k, sw) L (.inr (.inl b) :: .inr (.inl a) :: r) σ = T := h
theorem y93 {a : Int64} (h : go nx L (.inl a.toInt32 :: r) σ = T) : zstep call go (9, nx, x, 3, z, k, sw) L (.inr (.inl a) :: r) σ = T := h
theorem y12 (h : go x L st σ = T) : zstep call go (12, nx, x, y, z, k, sw) L st σ = T := h
theorem y13 {v : Int32} (h : zsw v (fun t => go t L r σ) x sw = T) : zstep call go (13, nx, x, y, z, k, sw) L (.inl v :: r) σ = T := h
theorem ysw {α : Type} {v c : Int32} {g : Nat → α} {d t : Nat} {s2 : List (Int32 × Nat)} {A B : α} (h1 : g t = A) (h2 : zsw v g d s2 = B) : zsw v g d ((c, t) :: s2) = if v = c then A else B := by simp only [zsw, h1, h2]
theorem yswd {α : Type} {v : Int32} {g : Nat → α} {d : Nat} {A : α} (h : g d = A) : zsw v g d [] = A := h
theorem y14 {c : Nat} {v : zV} (hg : zfld σ c x y = some v) (h : go nx L (v :: r) σ = T) : zstep call go (14, nx, x, y, z, k, sw) L (.inr (.inr c) :: r) σ = T := by simp only [zstep, hg, h]
theorem y15 {c : Nat} {v : Int32} (hw : zwr c x y = true) (h : go nx L r (wr σ c y v) = T) : zstep call go (15, nx, x, y, z, k, sw) L (.inl v :: .inr (.inr c) :: r) σ = T := by simp only [zstep, hw, if_true]; exact h
theorem y31 {c : Nat} {v : Int32} (hw : zwr c x y = true) (h : go nx L r (wr σ c y v) = T) : zstep call go (31, nx, x, y, z, k, sw) L (.inl v :: .inr (.inr c) :: r) σ = if v = 0 ∨ v = 1 then T else none := by simp only [zstep, hw, if_true]; rw [← h]; rfl
theorem y31l {c : Nat} {v : Int32} (hw : zwr c x y = true) (hv : v = 0 ∨ v = 1) (h : go nx L r (wr σ c y v) = T) : zstep call go (31, nx, x, y, z, k, sw) L (.inl v :: .inr (.inr c) :: r) σ = T := by rw [y31 hw h, if_pos hv]
theorem y16 {c m : Nat} {i v : Int32} (ha : zarr c y = some m) (hv : σ c i.toNatClampNeg = v) (h : go nx L (.inl v :: r) σ = T) : zstep call go (16, nx, x, y, z, k, sw) L (.inl i :: .inr (.inr c) :: r) σ = if i < 0 ∨ m ≤ i.toNatClampNeg then none else T := by subst hv; simp only [zstep, ha, h]
theorem y16l {c m : Nat} {i v : Int32} (ha : zarr c y = some m) (hi : ¬ (i < 0 ∨ m ≤ i.toNatClampNeg)) (hv : σ c i.toNatClampNeg = v) (h : go nx L (.inl v :: r) σ = T) : zstep call go (16, nx, x, y, z, k, sw) L (.inl i :: .inr (.inr c) :: r) σ = T := by rw [y16 ha hv h, if_neg hi]
theorem y17 {c m : Nat} {i v : Int32} (ha : zarr c 0 = some m) (h : go nx L r (wr σ c i.toNatClampNeg v) = T) : zstep call go (17, nx, x, 0, z, k, sw) L (.inl v :: .inl i :: .inr (.inr c) :: r) σ = if i < 0 ∨ m ≤ i.toNatClampNeg then none else T := by simp only [zstep, ha]; rw [← h]; rfl
theorem y17l {c m : Nat} {i v : Int32} (ha : zarr c 0 = some m) (hi : ¬ (i < 0 ∨ m ≤ i.toNatClampNeg)) (h : go nx L r (wr σ c i.toNatClampNeg v) = T) : zstep call go (17, nx, x, 0, z, k, sw) L (.inl v :: .inl i :: .inr (.inr c) :: r) σ = T := by rw [y17 ha h, if_neg hi]
theorem y17c {c m : Nat} {i v : Int32} (ha : zarr c 1 = some m) (h : go nx L r (wr σ c i.toNatClampNeg (vp_nar .char v)) = T) : zstep call go (17, nx, x, 1, z, k, sw) L (.inl v :: .inl i :: .inr (.inr c) :: r) σ = if i < 0 ∨ m ≤ i.toNatClampNeg then none else T := by simp only [zstep, ha]; rw [← h]; rfl
theorem ynot {a b c : Nat} (h1 : Nat.ble b a = true) (h2 : Nat.ble c 8 = true) : ¬ (a < b ∨ 8 < c) := by
  have := Nat.le_of_ble_eq_true h1
  have := Nat.le_of_ble_eq_true h2
  omega
theorem y18 {as : List zV} {K : Int32 → zS → Option zR} (g1 : Nat.ble y st.length = true) (g2 : Nat.ble ((st.drop y).map zcat).sum 8 = true) (h2 : (st.take y).reverse = as) (h3 : zrecv sw as = true) (h4 : st.drop y = r) (h : ∀ v s, go nx L (.inl v :: r) s = K v s) : zstep call go (18, nx, x, y, z, k, sw) L st σ = zbI (call x as σ) K := by
  subst h4
  have h1 := ynot g1 g2
  simp only [zstep, zinv, if_neg h1, h2, h3, if_true]
  exact congrArg _ (funext fun v => funext fun s => h v s)
theorem y30 {as : List zV} {K : zS → Option zR} (g1 : Nat.ble y st.length = true) (g2 : Nat.ble ((st.drop y).map zcat).sum 8 = true) (h2 : (st.take y).reverse = as) (h3 : zrecv sw as = true) (h4 : st.drop y = r) (h : ∀ s, go nx L r s = K s) : zstep call go (30, nx, x, y, z, k, sw) L st σ = zbV (call x as σ) K := by
  subst h4
  have h1 := ynot g1 g2
  simp only [zstep, zinvV, if_neg h1, h2, h3, if_true]
  exact congrArg _ (funext fun s => h s)
theorem y19 {v : Int32} : zstep call go (19, nx, x, 0, z, k, sw) L [.inl v] σ = some (1, v, σ) := rfl
theorem y19b {v : Int32} : zstep call go (19, nx, x, 1, z, k, sw) L [.inl v] σ = if v = 0 ∨ v = 1 then some (1, v, σ) else none := rfl
theorem y19l {v : Int32} (hv : v = 0 ∨ v = 1) : zstep call go (19, nx, x, 1, z, k, sw) L [.inl v] σ = some (1, v, σ) := by rw [y19b, if_pos hv]
theorem y20 : zstep call go (20, nx, x, y, z, k, sw) L [] σ = some (0, 0, σ) := rfl
theorem y21 {v : zV} (hc : zcat v = 1) (h : go nx L (v :: v :: r) σ = T) : zstep call go (21, nx, x, y, z, k, sw) L (v :: r) σ = T := by simp only [zstep, hc, if_true, h]
theorem y22 {v : zV} (hc : zcat v = 1) (h : go nx L r σ = T) : zstep call go (22, nx, x, y, z, k, sw) L (v :: r) σ = T := by simp only [zstep, hc, if_true, h]
theorem y23 {v w : zV} (hc : zcat v = 1 ∧ zcat w = 1) (h : go nx L (v :: w :: v :: w :: r) σ = T) : zstep call go (23, nx, x, y, z, k, sw) L (v :: w :: r) σ = T := by simp only [zstep, hc, and_self, if_true, h]
theorem y24 {c m : Nat} (ha : zarr c 0 = some m) (h : go nx L (.inl (Int32.ofNat m) :: r) σ = T) : zstep call go (24, nx, x, y, z, k, sw) L (.inr (.inr c) :: r) σ = T := by simp only [zstep, ha, h]
theorem y26 (h : go nx L (.inr (.inl k.toInt64) :: st) σ = T) : zstep call go (26, nx, x, y, z, k, sw) L st σ = T := h
theorem y27 (hy : y < 10) (h : go nx L (.inr (.inr (1000 + y)) :: st) σ = T) : zstep call go (27, nx, x, y, z, k, sw) L st σ = T := by simp only [zstep, hy, if_true, h]
theorem y29 : zstep call go (29, nx, x, y, z, k, sw) L [] σ = some (2, 0, σ) := rfl
theorem y32 {a : Int32} (h1 : go x L r σ = T) (h2 : go nx L r σ = T2) : zstep call go (32, nx, x, y, z, k, sw) L (.inl a :: r) σ = if a = 0 then T else T2 := by simp only [zstep, h1, h2]
theorem y33 {a : Int32} (h1 : go x L r σ = T) (h2 : go nx L r σ = T2) : zstep call go (33, nx, x, y, z, k, sw) L (.inl a :: r) σ = if a < 0 then T else T2 := by simp only [zstep, h1, h2]
theorem y34 {a : Int32} (h1 : go x L r σ = T) (h2 : go nx L r σ = T2) : zstep call go (34, nx, x, y, z, k, sw) L (.inl a :: r) σ = if 0 < a then T else T2 := by simp only [zstep, h1, h2]
theorem y35 {a b : Int32} (h1 : go x L r σ = T) (h2 : go nx L r σ = T2) : zstep call go (35, nx, x, y, z, k, sw) L (.inl b :: .inl a :: r) σ = if a = b then T else T2 := by simp only [zstep, h1, h2]
theorem y36 {a b : Int32} (h1 : go x L r σ = T) (h2 : go nx L r σ = T2) : zstep call go (36, nx, x, y, z, k, sw) L (.inl b :: .inl a :: r) σ = if a < b then T else T2 := by simp only [zstep, h1, h2]
theorem y37 {a b : Int32} (h1 : go x L r σ = T) (h2 : go nx L r σ = T2) : zstep call go (37, nx, x, y, z, k, sw) L (.inl b :: .inl a :: r) σ = if b < a then T else T2 := by simp only [zstep, h1, h2]
theorem y25 {c d n0 n1 m : Nat} {v : Int32} (h0 : zarr c 0 = some n0) (h1 : zarr d 0 = some n1) (hc : ¬ ((0 : Int32) < 0 ∨ (0 : Int32) < 0 ∨ v < 0 ∨ n0 < (0 : Int32).toNatClampNeg + v.toNatClampNeg ∨ n1 < (0 : Int32).toNatClampNeg + v.toNatClampNeg ∨ 8 < (r.map zcat).sum)) (hm : v.toNatClampNeg = m) (h : go nx L r (wcp σ c d m) = T) : zstep call go (25, nx, x, y, z, k, sw) L (.inl v :: .inl 0 :: .inr (.inr d) :: .inl 0 :: .inr (.inr c) :: r) σ = T := by
  subst hm
  simp only [zstep, zcopy, h0, h1, if_neg hc]
  exact h
theorem yst {c s : Nat} (h1 : Nat.ble 1000 c = true) (h2 : Nat.ble 1010 c = false) (h3 : Nat.ble s 8 = true) : ¬ (c < 1000) ∧ ¬ (1010 ≤ c) ∧ ¬ (8 < s) := by
  have a1 := Nat.le_of_ble_eq_true h1
  have a3 := Nat.le_of_ble_eq_true h3
  have a2 : ¬ 1010 ≤ c := fun h9 => by rw [Nat.ble_eq_true_of_le h9] at h2; cases h2
  omega
theorem y280 {c : Nat} {v : Int32} (h1 : Nat.ble 1000 c = true) (h2 : Nat.ble 1010 c = false) (h3 : Nat.ble ((r.map zcat).sum) 8 = true) (hv : Int32.ofNat (zstr (c - 1000)).length = v) (h : go nx L (.inl v :: r) σ = T) : zstep call go (28, nx, 0, y, z, k, sw) L (.inr (.inr c) :: r) σ = T := by
  obtain ⟨a1, a2, a3⟩ := yst h1 h2 h3
  simp only [zstep, zscall, a1, a2, a3, or_self, if_false, hv, h]
theorem y281 {c m : Nat} {i v : Int32} (h1 : Nat.ble 1000 c = true) (h2 : Nat.ble 1010 c = false) (h3 : Nat.ble ((r.map zcat).sum) 8 = true) (hm : (zstr (c - 1000)).length = m) (hv : (zstr (c - 1000)).getD i.toNatClampNeg 0 = v) (h : go nx L (.inl v :: r) σ = T) : zstep call go (28, nx, 1, y, z, k, sw) L (.inl i :: .inr (.inr c) :: r) σ = if i < 0 ∨ m ≤ i.toNatClampNeg then none else T := by
  obtain ⟨a1, a2, a3⟩ := yst h1 h2 h3
  simp only [zstep, zscall, a1, a2, a3, or_self, if_false, hm, hv, h]
theorem y282 {c : Nat} {i v : Int32} (h1 : Nat.ble 1000 c = true) (h2 : Nat.ble 1010 c = false) (h3 : Nat.ble ((r.map zcat).sum) 8 = true) (hv : zixF i (zstr (c - 1000)) 0 = v) (h : go nx L (.inl v :: r) σ = T) : zstep call go (28, nx, 2, y, z, k, sw) L (.inl i :: .inr (.inr c) :: r) σ = if i < 0 ∨ 256 ≤ i then none else T := by
  obtain ⟨a1, a2, a3⟩ := yst h1 h2 h3
  simp only [zstep, zscall, a1, a2, a3, false_or, hv, h]
theorem yif {c : Prop} {i : Decidable c} {A B : Option zR} (hc : c) (h : A = T) : @ite _ c i A B = T := by rw [if_pos hc, h]
theorem yel {c : Prop} {i : Decidable c} {A B : Option zR} (hc : ¬ c) (h : B = T) : @ite _ c i A B = T := by rw [if_neg hc, h]
end
end
section
-- equations: what each method of the image does, from cut to cut (printed by wip/eqs.py)
theorem zat_X0_wipe : zMT[mX0_wipe]? = some ze_X0_wipe := rfl
theorem zat_X0_size : zMT[mX0_size]? = some ze_X0_size := rfl
theorem zat_X0_holds : zMT[mX0_holds]? = some ze_X0_holds := rfl
theorem zat_X0_kindAt : zMT[mX0_kindAt]? = some ze_X0_kindAt := rfl
theorem zat_X0_refAt : zMT[mX0_refAt]? = some ze_X0_refAt := rfl
theorem zat_X0_valueAt : zMT[mX0_valueAt]? = some ze_X0_valueAt := rfl
theorem zat_X0_count : zMT[mX0_count]? = some ze_X0_count := rfl
theorem zat_X0_add : zMT[mX0_add]? = some ze_X0_add := rfl
theorem zat_X0_addOfOthers : zMT[mX0_addOfOthers]? = some ze_X0_addOfOthers := rfl
theorem zat_X0_dropDecision : zMT[mX0_dropDecision]? = some ze_X0_dropDecision := rfl
theorem zat_X0_decisionEnd : zMT[mX0_decisionEnd]? = some ze_X0_decisionEnd := rfl
theorem zat_X0_isAt : zMT[mX0_isAt]? = some ze_X0_isAt := rfl
theorem zat_X0_endOf : zMT[mX0_endOf]? = some ze_X0_endOf := rfl
theorem zat_X0_signal : zMT[mX0_signal]? = some ze_X0_signal := rfl
theorem zat_X0_addSignal : zMT[mX0_addSignal]? = some ze_X0_addSignal := rfl
theorem zat_X0_fits : zMT[mX0_fits]? = some ze_X0_fits := rfl
theorem zat_X0_isOpen : zMT[mX0_isOpen]? = some ze_X0_isOpen := rfl
theorem zat_X1_wipe : zMT[mX1_wipe]? = some ze_X1_wipe := rfl
theorem zat_X1_copyFrom : zMT[mX1_copyFrom]? = some ze_X1_copyFrom := rfl
theorem zat_X1_size : zMT[mX1_size]? = some ze_X1_size := rfl
theorem zat_X1_statementCount : zMT[mX1_statementCount]? = some ze_X1_statementCount := rfl
theorem zat_X1_add : zMT[mX1_add]? = some ze_X1_add := rfl
theorem zat_X1_addJump : zMT[mX1_addJump]? = some ze_X1_addJump := rfl
theorem zat_X1_addItem : zMT[mX1_addItem]? = some ze_X1_addItem := rfl
theorem zat_X1_setSort : zMT[mX1_setSort]? = some ze_X1_setSort := rfl
theorem zat_X1_setFirst : zMT[mX1_setFirst]? = some ze_X1_setFirst := rfl
theorem zat_X1_setSecond : zMT[mX1_setSecond]? = some ze_X1_setSecond := rfl
theorem zat_X1_sortAt : zMT[mX1_sortAt]? = some ze_X1_sortAt := rfl
theorem zat_X1_targetAt : zMT[mX1_targetAt]? = some ze_X1_targetAt := rfl
theorem zat_X1_firstAt : zMT[mX1_firstAt]? = some ze_X1_firstAt := rfl
theorem zat_X1_secondAt : zMT[mX1_secondAt]? = some ze_X1_secondAt := rfl
theorem zat_X1_firstItem : zMT[mX1_firstItem]? = some ze_X1_firstItem := rfl
theorem zat_X1_itemEnd : zMT[mX1_itemEnd]? = some ze_X1_itemEnd := rfl
theorem zat_X1_itemSort : zMT[mX1_itemSort]? = some ze_X1_itemSort := rfl
theorem zat_X1_itemValue : zMT[mX1_itemValue]? = some ze_X1_itemValue := rfl
theorem zat_X1_holds : zMT[mX1_holds]? = some ze_X1_holds := rfl
theorem zat_X2_read : zMT[mX2_read]? = some ze_X2_read := rfl
theorem zat_X2_readStatements : zMT[mX2_readStatements]? = some ze_X2_readStatements := rfl
theorem zat_X2_isBlockEnd : zMT[mX2_isBlockEnd]? = some ze_X2_isBlockEnd := rfl
theorem zat_X2_readStatement : zMT[mX2_readStatement]? = some ze_X2_readStatement := rfl
theorem zat_X2_readChoice : zMT[mX2_readChoice]? = some ze_X2_readChoice := rfl
theorem zat_X2_readLoop : zMT[mX2_readLoop]? = some ze_X2_readLoop := rfl
theorem zat_X2_readStop : zMT[mX2_readStop]? = some ze_X2_readStop := rfl
theorem zat_X2_readAssignment : zMT[mX2_readAssignment]? = some ze_X2_readAssignment := rfl
theorem zat_X2_readRest : zMT[mX2_readRest]? = some ze_X2_readRest := rfl
theorem zat_X2_readFirst : zMT[mX2_readFirst]? = some ze_X2_readFirst := rfl
theorem zat_X2_readSecond : zMT[mX2_readSecond]? = some ze_X2_readSecond := rfl
theorem zat_X2_readX : zMT[mX2_readX]? = some ze_X2_readX := rfl
theorem zat_X2_readPart : zMT[mX2_readPart]? = some ze_X2_readPart := rfl
theorem zat_X2_readTerm : zMT[mX2_readTerm]? = some ze_X2_readTerm := rfl
theorem zat_X2_readFactor : zMT[mX2_readFactor]? = some ze_X2_readFactor := rfl
theorem zat_X3_restart : zMT[mX3_restart]? = some ze_X3_restart := rfl
theorem zat_X3_copyFrom : zMT[mX3_copyFrom]? = some ze_X3_copyFrom := rfl
theorem zat_X3_get : zMT[mX3_get]? = some ze_X3_get := rfl
theorem zat_X3_set : zMT[mX3_set]? = some ze_X3_set := rfl
theorem zat_X4_catchUp : zMT[mX4_catchUp]? = some ze_X4_catchUp := rfl
theorem zat_X4_addDecision : zMT[mX4_addDecision]? = some ze_X4_addDecision := rfl
theorem zat_X4_runDecision : zMT[mX4_runDecision]? = some ze_X4_runDecision := rfl
theorem zat_X4_turn : zMT[mX4_turn]? = some ze_X4_turn := rfl
theorem zat_X4_finish : zMT[mX4_finish]? = some ze_X4_finish := rfl
theorem zat_X4_order : zMT[mX4_order]? = some ze_X4_order := rfl
theorem zat_X4_stop : zMT[mX4_stop]? = some ze_X4_stop := rfl
theorem zat_X4_patch : zMT[mX4_patch]? = some ze_X4_patch := rfl
theorem zat_X4_want : zMT[mX4_want]? = some ze_X4_want := rfl
theorem zat_X4_differ : zMT[mX4_differ]? = some ze_X4_differ := rfl
theorem zat_X4_waitFor : zMT[mX4_waitFor]? = some ze_X4_waitFor := rfl
theorem zat_X4_waitForAny : zMT[mX4_waitForAny]? = some ze_X4_waitForAny := rfl
theorem zat_X4_takeSignal : zMT[mX4_takeSignal]? = some ze_X4_takeSignal := rfl
theorem zat_X4_endOf : zMT[mX4_endOf]? = some ze_X4_endOf := rfl
theorem zat_X4_workOut : zMT[mX4_workOut]? = some ze_X4_workOut := rfl
theorem zat_X4_work : zMT[mX4_work]? = some ze_X4_work := rfl
theorem zat_X4_join : zMT[mX4_join]? = some ze_X4_join := rfl
theorem zat_X4_push : zMT[mX4_push]? = some ze_X4_push := rfl
theorem zat_X4_pop : zMT[mX4_pop]? = some ze_X4_pop := rfl
theorem zat_X5_put : zMT[mX5_put]? = some ze_X5_put := rfl
theorem zat_X5_wipe : zMT[mX5_wipe]? = some ze_X5_wipe := rfl
theorem zat_X5_length : zMT[mX5_length]? = some ze_X5_length := rfl
theorem zat_X5_at : zMT[mX5_at]? = some ze_X5_at := rfl
theorem zat_X5_byteOf : zMT[mX5_byteOf]? = some ze_X5_byteOf := rfl
theorem zat_X6_scan : zMT[mX6_scan]? = some ze_X6_scan := rfl
theorem zat_X6_kind : zMT[mX6_kind]? = some ze_X6_kind := rfl
theorem zat_X6_place : zMT[mX6_place]? = some ze_X6_place := rfl
theorem zat_X6_value : zMT[mX6_value]? = some ze_X6_value := rfl
theorem zat_X6_skip : zMT[mX6_skip]? = some ze_X6_skip := rfl
theorem zat_X6_take : zMT[mX6_take]? = some ze_X6_take := rfl
theorem zat_X6_isWord : zMT[mX6_isWord]? = some ze_X6_isWord := rfl
theorem zat_X6_add : zMT[mX6_add]? = some ze_X6_add := rfl
theorem zat_X6_addFrom : zMT[mX6_addFrom]? = some ze_X6_addFrom := rfl
theorem zat_X6_addName : zMT[mX6_addName]? = some ze_X6_addName := rfl
theorem zat_X6_addNumber : zMT[mX6_addNumber]? = some ze_X6_addNumber := rfl
theorem zat_X6_isStart : zMT[mX6_isStart]? = some ze_X6_isStart := rfl
theorem zat_X6_isLetter : zMT[mX6_isLetter]? = some ze_X6_isLetter := rfl
theorem zat_X6_isDigit : zMT[mX6_isDigit]? = some ze_X6_isDigit := rfl
theorem zat_X6_sortOfWord : zMT[mX6_sortOfWord]? = some ze_X6_sortOfWord := rfl
theorem zat_X6_spells : zMT[mX6_spells]? = some ze_X6_spells := rfl
theorem zat_X7_type : zMT[mX7_type]? = some ze_X7_type := rfl
theorem zat_X7_program : zMT[mX7_program]? = some ze_X7_program := rfl
theorem zat_X7_fault : zMT[mX7_fault]? = some ze_X7_fault := rfl
theorem zat_X7_decide : zMT[mX7_decide]? = some ze_X7_decide := rfl
theorem zat_X7_refused : zMT[mX7_refused]? = some ze_X7_refused := rfl
theorem zat_X7_differs : zMT[mX7_differs]? = some ze_X7_differs := rfl
theorem zat_X7_happen : zMT[mX7_happen]? = some ze_X7_happen := rfl
theorem zat_X7_crash : zMT[mX7_crash]? = some ze_X7_crash := rfl
theorem zat_X7_clear : zMT[mX7_clear]? = some ze_X7_clear := rfl
theorem zat_X7_event : zMT[mX7_event]? = some ze_X7_event := rfl
theorem zat_X7_register : zMT[mX7_register]? = some ze_X7_register := rfl
theorem zat_X7_total : zMT[mX7_total]? = some ze_X7_total := rfl
theorem zat_X8_thrown : zMT[mX8_thrown]? = some ze_X8_thrown := rfl
theorem zat_X8_raise : zMT[mX8_raise]? = some ze_X8_raise := rfl
theorem zat_X8_type : zMT[mX8_type]? = some ze_X8_type := rfl
theorem zat_X8_see : zMT[mX8_see]? = some ze_X8_see := rfl
theorem zat_X8_isDigit : zMT[mX8_isDigit]? = some ze_X8_isDigit := rfl
theorem zat_X8_isLetter : zMT[mX8_isLetter]? = some ze_X8_isLetter := rfl
theorem zat_X8_isSign : zMT[mX8_isSign]? = some ze_X8_isSign := rfl
theorem zat_X8_token : zMT[mX8_token]? = some ze_X8_token := rfl
theorem zat_X8_spelt : zMT[mX8_spelt]? = some ze_X8_spelt := rfl
theorem zat_X8_nameOf : zMT[mX8_nameOf]? = some ze_X8_nameOf := rfl
theorem zat_X8_tokenize : zMT[mX8_tokenize]? = some ze_X8_tokenize := rfl
theorem zat_X8_refuse : zMT[mX8_refuse]? = some ze_X8_refuse := rfl
theorem zat_X8_is : zMT[mX8_is]? = some ze_X8_is := rfl
theorem zat_X8_takes : zMT[mX8_takes]? = some ze_X8_takes := rfl
theorem zat_X8_want : zMT[mX8_want]? = some ze_X8_want := rfl
theorem zat_X8_deeper : zMT[mX8_deeper]? = some ze_X8_deeper := rfl
theorem zat_X8_node : zMT[mX8_node]? = some ze_X8_node := rfl
theorem zat_X8_readX : zMT[mX8_readX]? = some ze_X8_readX := rfl
theorem zat_X8_readSum : zMT[mX8_readSum]? = some ze_X8_readSum := rfl
theorem zat_X8_readTerm : zMT[mX8_readTerm]? = some ze_X8_readTerm := rfl
theorem zat_X8_readFactor : zMT[mX8_readFactor]? = some ze_X8_readFactor := rfl
theorem zat_X8_readRegister : zMT[mX8_readRegister]? = some ze_X8_readRegister := rfl
theorem zat_X8_readNumber : zMT[mX8_readNumber]? = some ze_X8_readNumber := rfl
theorem zat_X8_readList : zMT[mX8_readList]? = some ze_X8_readList := rfl
theorem zat_X8_readStatement : zMT[mX8_readStatement]? = some ze_X8_readStatement := rfl
theorem zat_X8_readTurn : zMT[mX8_readTurn]? = some ze_X8_readTurn := rfl
theorem zat_X8_program : zMT[mX8_program]? = some ze_X8_program := rfl
theorem zat_X8_fault : zMT[mX8_fault]? = some ze_X8_fault := rfl
theorem zat_X8_work : zMT[mX8_work]? = some ze_X8_work := rfl
theorem zat_X8_isCommand : zMT[mX8_isCommand]? = some ze_X8_isCommand := rfl
theorem zat_X8_begins : zMT[mX8_begins]? = some ze_X8_begins := rfl
theorem zat_X8_append : zMT[mX8_append]? = some ze_X8_append := rfl
theorem zat_X8_goOn : zMT[mX8_goOn]? = some ze_X8_goOn := rfl
theorem zat_X8_step : zMT[mX8_step]? = some ze_X8_step := rfl
theorem zat_X8_command : zMT[mX8_command]? = some ze_X8_command := rfl
theorem zat_X8_isDone : zMT[mX8_isDone]? = some ze_X8_isDone := rfl
theorem zat_X8_hasSignal : zMT[mX8_hasSignal]? = some ze_X8_hasSignal := rfl
theorem zat_X8_isReady : zMT[mX8_isReady]? = some ze_X8_isReady := rfl
theorem zat_X8_list : zMT[mX8_list]? = some ze_X8_list := rfl
theorem zat_X8_turn : zMT[mX8_turn]? = some ze_X8_turn := rfl
theorem zat_X8_statement : zMT[mX8_statement]? = some ze_X8_statement := rfl
theorem zat_X8_patch : zMT[mX8_patch]? = some ze_X8_patch := rfl
theorem zat_X8_waits : zMT[mX8_waits]? = some ze_X8_waits := rfl
theorem zat_X8_stop : zMT[mX8_stop]? = some ze_X8_stop := rfl
theorem zat_X8_run : zMT[mX8_run]? = some ze_X8_run := rfl
theorem zat_X8_decide : zMT[mX8_decide]? = some ze_X8_decide := rfl
theorem zat_X8_refused : zMT[mX8_refused]? = some ze_X8_refused := rfl
theorem zat_X8_differs : zMT[mX8_differs]? = some ze_X8_differs := rfl
theorem zat_X8_isGone : zMT[mX8_isGone]? = some ze_X8_isGone := rfl
theorem zat_X8_happen : zMT[mX8_happen]? = some ze_X8_happen := rfl
theorem zat_X8_crash : zMT[mX8_crash]? = some ze_X8_crash := rfl
theorem zat_X8_clear : zMT[mX8_clear]? = some ze_X8_clear := rfl
theorem zat_X8_event : zMT[mX8_event]? = some ze_X8_event := rfl
theorem zat_X8_register : zMT[mX8_register]? = some ze_X8_register := rfl
theorem zat_X8_total : zMT[mX8_total]? = some ze_X8_total := rfl
set_option maxRecDepth 100000 in
theorem qX7_type_0_0 (d n : Nat) (σ : zS) (x3 : Int32) (x1 : Int64) : zexec zc_X7_type zu_X7_type (zM d) (n + 1) 0 [.inr (.inr 0), .inr (.inl x1), .inl x3] σ = zbI (zM d mX5_put [.inr (.inr 1), .inr (.inl x1), .inl x3] σ) (fun r1 s1 => if r1 = 0 ∨ r1 = 1 then (some (1, r1, s1)) else (none)) := ze rfl rfl rfl (zx rfl rfl (y2 rfl (zx rfl rfl (y14 (v := .inr (.inr 1)) rfl (zx rfl rfl (y3 rfl (zx rfl rfl (y1 rfl (zx rfl rfl (y18 (r := []) rfl rfl rfl rfl rfl (fun r1 s1 => zx rfl rfl y19b)))))))))))
set_option maxRecDepth 100000 in
theorem qX7_type_0 (d : Nat) (σ : zS) (x3 : Int32) (x1 : Int64) : zM (d + 1) mX7_type [.inr (.inr 0), .inr (.inl x1), .inl x3] σ = zexec zc_X7_type zu_X7_type (zM d) (999999 + 1) 0 [.inr (.inr 0), .inr (.inl x1), .inl x3] σ := zM_eq (zat_X7_type) rfl (Nat.le_of_ble_eq_true rfl)
set_option maxRecDepth 100000 in
theorem qX7_program_0_0 (d n : Nat) (σ : zS) : zexec zc_X7_program zu_X7_program (zM d) (n + 1) 0 [.inr (.inr 0)] σ = zbV (zM d mX6_scan [.inr (.inr 3), .inr (.inr 1)] σ) (fun s1 => zbV (zM d mX5_wipe [.inr (.inr 1)] s1) (fun s2 => zbI (zM d mX2_read [.inr (.inr 23)] s2) (fun r3 s3 => if r3 = (-1) then (zbV (zM d mX1_copyFrom [.inr (.inr 15), .inr (.inr 7)] (wr s3 0 10 r3)) (fun s4 => zbV (zM d mX3_restart [.inr (.inr 30)] (wr s4 0 9 1)) (fun s5 => zbI (zM d mX1_statementCount [.inr (.inr 15)] s5) (fun r6 s6 => some (1, r6, s6))))) else (some (2, 0, wr s3 0 10 r3))))) := ze rfl rfl rfl (zx rfl rfl (y2 rfl (zx rfl rfl (y14 (v := .inr (.inr 3)) rfl (zx rfl rfl (y2 rfl (zx rfl rfl (y14 (v := .inr (.inr 1)) rfl (zx rfl rfl (y30 (r := []) rfl rfl rfl rfl rfl (fun s1 => zx rfl rfl (y2 rfl (zx rfl rfl (y14 (v := .inr (.inr 1)) rfl (zx rfl rfl (y30 (r := []) rfl rfl rfl rfl rfl (fun s2 => zx rfl rfl (y2 rfl (zx rfl rfl (y2 rfl (zx rfl rfl (y14 (v := .inr (.inr 23)) rfl (zx rfl rfl (y18 (r := [.inr (.inr 0)]) rfl rfl rfl rfl rfl (fun r3 s3 => zx rfl rfl (y15 rfl (zx rfl rfl (y2 rfl (zx rfl rfl (y14 (v := .inl r3) rfl (zx rfl rfl (y0 (zx rfl rfl (y35 (zx rfl rfl (y2 rfl (zx rfl rfl (y14 (v := .inr (.inr 15)) rfl (zx rfl rfl (y2 rfl (zx rfl rfl (y14 (v := .inr (.inr 7)) rfl (zx rfl rfl (y30 (r := []) rfl rfl rfl rfl rfl (fun s4 => zx rfl rfl (y2 rfl (zx rfl rfl (y0 (zx rfl rfl (y31l rfl (by decide) (zx rfl rfl (y2 rfl (zx rfl rfl (y14 (v := .inr (.inr 30)) rfl (zx rfl rfl (y30 (r := []) rfl rfl rfl rfl rfl (fun s5 => zx rfl rfl (y2 rfl (zx rfl rfl (y14 (v := .inr (.inr 15)) rfl (zx rfl rfl (y18 (r := []) rfl rfl rfl rfl rfl (fun r6 s6 => zx rfl rfl y19))))))))))))))))))))))))))))) (zx rfl rfl y29)))))))))))))))))))))))))))))))))))
set_option maxRecDepth 100000 in
theorem qX7_program_0 (d : Nat) (σ : zS) : zM (d + 1) mX7_program [.inr (.inr 0)] σ = zexec zc_X7_program zu_X7_program (zM d) (999999 + 1) 0 [.inr (.inr 0)] σ := zM_eq (zat_X7_program) rfl (Nat.le_of_ble_eq_true rfl)
set_option maxRecDepth 100000 in
theorem qX7_fault_0_0 (d n : Nat) (σ : zS) : zexec zc_X7_fault zu_X7_fault (zM d) (n + 1) 0 [.inr (.inr 0)] σ = some (1, σ 0 10, σ) := ze rfl rfl rfl (zx rfl rfl (y2 rfl (zx rfl rfl (y14 (v := .inl (σ 0 10)) rfl (zx rfl rfl y19)))))
set_option maxRecDepth 100000 in
theorem qX7_fault_0 (d : Nat) (σ : zS) : zM (d + 1) mX7_fault [.inr (.inr 0)] σ = zexec zc_X7_fault zu_X7_fault (zM d) (999999 + 1) 0 [.inr (.inr 0)] σ := zM_eq (zat_X7_fault) rfl (Nat.le_of_ble_eq_true rfl)
set_option maxRecDepth 100000 in
theorem qX7_decide_0_0 (d n : Nat) (σ : zS) (x1 : Int32) : zexec zc_X7_decide zu_X7_decide (zM d) (n + 1) 0 [.inr (.inr 0), .inl x1] σ = zbI (zM d mX0_size [.inr (.inr 24)] σ) (fun r1 s1 => if (s1 0 9) = 0 then (some (2, 0, wr (wr s1 0 11 1) 0 12 (-1))) else (zbI (zM d mX4_catchUp [.inr (.inr 34)] s1) (fun r2 s2 => if r2 = 2 then (if r2 = 0 then (zbI (zM d mX4_addDecision [.inr (.inr 34), .inl x1] (wr (wr s2 0 11 r2) 0 12 (s2 34 12))) (fun r3 s3 => if r3 = 0 then (zbV (zM d mX3_copyFrom [.inr (.inr 32), .inr (.inr 30)] (wr s3 0 11 r3)) (fun s4 => zbI (zM d mX0_size [.inr (.inr 24)] s4) (fun r5 s5 => some (1, (r5 - r1) - 1, s5)))) else (some (2, 0, wr s3 0 11 r3)))) else (if r2 = 0 then (zbV (zM d mX3_copyFrom [.inr (.inr 32), .inr (.inr 30)] (wr (wr s2 0 11 r2) 0 12 (s2 34 12))) (fun s6 => zbI (zM d mX0_size [.inr (.inr 24)] s6) (fun r7 s7 => some (1, (r7 - r1) - 1, s7)))) else (some (2, 0, wr (wr s2 0 11 r2) 0 12 (s2 34 12))))) else (if r2 = 0 then (zbI (zM d mX4_addDecision [.inr (.inr 34), .inl x1] (wr (wr s2 0 11 r2) 0 12 (-1))) (fun r8 s8 => if r8 = 0 then (zbV (zM d mX3_copyFrom [.inr (.inr 32), .inr (.inr 30)] (wr s8 0 11 r8)) (fun s9 => zbI (zM d mX0_size [.inr (.inr 24)] s9) (fun r10 s10 => some (1, (r10 - r1) - 1, s10)))) else (some (2, 0, wr s8 0 11 r8)))) else (if r2 = 0 then (zbV (zM d mX3_copyFrom [.inr (.inr 32), .inr (.inr 30)] (wr (wr s2 0 11 r2) 0 12 (-1))) (fun s11 => zbI (zM d mX0_size [.inr (.inr 24)] s11) (fun r12 s12 => some (1, (r12 - r1) - 1, s12)))) else (some (2, 0, wr (wr s2 0 11 r2) 0 12 (-1)))))))) := ze rfl rfl rfl (zx rfl rfl (y2 rfl (zx rfl rfl (y14 (v := .inr (.inr 24)) rfl (zx rfl rfl (y18 (r := []) rfl rfl rfl rfl rfl (fun r1 s1 => zx rfl rfl (y4 rfl (zx rfl rfl (y2 rfl (zx rfl rfl (y2 rfl (zx rfl rfl (y14 (v := .inl (s1 0 9)) rfl (zx rfl rfl (y32 (zx rfl rfl (y0 (zx rfl rfl (y15 rfl (zx rfl rfl (y2 rfl (zx rfl rfl (y2 rfl (zx rfl rfl (y14 (v := .inl 1) rfl (zx rfl rfl (y0 (zx rfl rfl ((y35 rfl rfl).trans (yel (by decide) (zx rfl rfl (y0 (zx rfl rfl (y15 rfl (zx rfl rfl (y2 rfl (zx rfl rfl (y14 (v := .inl 1) rfl (zx rfl rfl ((y32 rfl rfl).trans (yel (by decide) (zx rfl rfl (y2 rfl (zx rfl rfl (y14 (v := .inl 1) rfl (zx rfl rfl ((y32 rfl rfl).trans (yel (by decide) (zx rfl rfl y29)))))))))))))))))))))))))))))))))) (zx rfl rfl (y2 rfl (zx rfl rfl (y14 (v := .inr (.inr 34)) rfl (zx rfl rfl (y18 (r := [.inr (.inr 0)]) rfl rfl rfl rfl rfl (fun r2 s2 => zx rfl rfl (y12 (zx rfl rfl (y15 rfl (zx rfl rfl (y2 rfl (zx rfl rfl (y2 rfl (zx rfl rfl (y14 (v := .inl r2) rfl (zx rfl rfl (y0 (zx rfl rfl (y35 (zx rfl rfl (y2 rfl (zx rfl rfl (y14 (v := .inr (.inr 34)) rfl (zx rfl rfl (y14 (v := .inl (s2 34 12)) rfl (zx rfl rfl (y12 (zx rfl rfl (y15 rfl (zx rfl rfl (y2 rfl (zx rfl rfl (y14 (v := .inl r2) rfl (zx rfl rfl (y32 (zx rfl rfl (y2 rfl (zx rfl rfl (y2 rfl (zx rfl rfl (y14 (v := .inr (.inr 34)) rfl (zx rfl rfl (y1 rfl (zx rfl rfl (y18 (r := [.inr (.inr 0)]) rfl rfl rfl rfl rfl (fun r3 s3 => zx rfl rfl (y15 rfl (zx rfl rfl (y2 rfl (zx rfl rfl (y14 (v := .inl r3) rfl (zx rfl rfl (y32 (zx rfl rfl (y2 rfl (zx rfl rfl (y14 (v := .inr (.inr 32)) rfl (zx rfl rfl (y2 rfl (zx rfl rfl (y14 (v := .inr (.inr 30)) rfl (zx rfl rfl (y30 (r := []) rfl rfl rfl rfl rfl (fun s4 => zx rfl rfl (y2 rfl (zx rfl rfl (y14 (v := .inr (.inr 24)) rfl (zx rfl rfl (y18 (r := []) rfl rfl rfl rfl rfl (fun r5 s5 => zx rfl rfl (y1 rfl (zx rfl rfl (y7 (v := r5 - r1) rfl (zx rfl rfl (y0 (zx rfl rfl (y7 (v := (r5 - r1) - 1) rfl (zx rfl rfl y19))))))))))))))))))))))))) (zx rfl rfl y29))))))))))))))))))) (zx rfl rfl (y2 rfl (zx rfl rfl (y14 (v := .inl r2) rfl (zx rfl rfl (y32 (zx rfl rfl (y2 rfl (zx rfl rfl (y14 (v := .inr (.inr 32)) rfl (zx rfl rfl (y2 rfl (zx rfl rfl (y14 (v := .inr (.inr 30)) rfl (zx rfl rfl (y30 (r := []) rfl rfl rfl rfl rfl (fun s6 => zx rfl rfl (y2 rfl (zx rfl rfl (y14 (v := .inr (.inr 24)) rfl (zx rfl rfl (y18 (r := []) rfl rfl rfl rfl rfl (fun r7 s7 => zx rfl rfl (y1 rfl (zx rfl rfl (y7 (v := r7 - r1) rfl (zx rfl rfl (y0 (zx rfl rfl (y7 (v := (r7 - r1) - 1) rfl (zx rfl rfl y19))))))))))))))))))))))))) (zx rfl rfl y29))))))))))))))))))))))) (zx rfl rfl (y0 (zx rfl rfl (y15 rfl (zx rfl rfl (y2 rfl (zx rfl rfl (y14 (v := .inl r2) rfl (zx rfl rfl (y32 (zx rfl rfl (y2 rfl (zx rfl rfl (y2 rfl (zx rfl rfl (y14 (v := .inr (.inr 34)) rfl (zx rfl rfl (y1 rfl (zx rfl rfl (y18 (r := [.inr (.inr 0)]) rfl rfl rfl rfl rfl (fun r8 s8 => zx rfl rfl (y15 rfl (zx rfl rfl (y2 rfl (zx rfl rfl (y14 (v := .inl r8) rfl (zx rfl rfl (y32 (zx rfl rfl (y2 rfl (zx rfl rfl (y14 (v := .inr (.inr 32)) rfl (zx rfl rfl (y2 rfl (zx rfl rfl (y14 (v := .inr (.inr 30)) rfl (zx rfl rfl (y30 (r := []) rfl rfl rfl rfl rfl (fun s9 => zx rfl rfl (y2 rfl (zx rfl rfl (y14 (v := .inr (.inr 24)) rfl (zx rfl rfl (y18 (r := []) rfl rfl rfl rfl rfl (fun r10 s10 => zx rfl rfl (y1 rfl (zx rfl rfl (y7 (v := r10 - r1) rfl (zx rfl rfl (y0 (zx rfl rfl (y7 (v := (r10 - r1) - 1) rfl (zx rfl rfl y19))))))))))))))))))))))))) (zx rfl rfl y29))))))))))))))))))) (zx rfl rfl (y2 rfl (zx rfl rfl (y14 (v := .inl r2) rfl (zx rfl rfl (y32 (zx rfl rfl (y2 rfl (zx rfl rfl (y14 (v := .inr (.inr 32)) rfl (zx rfl rfl (y2 rfl (zx rfl rfl (y14 (v := .inr (.inr 30)) rfl (zx rfl rfl (y30 (r := []) rfl rfl rfl rfl rfl (fun s11 => zx rfl rfl (y2 rfl (zx rfl rfl (y14 (v := .inr (.inr 24)) rfl (zx rfl rfl (y18 (r := []) rfl rfl rfl rfl rfl (fun r12 s12 => zx rfl rfl (y1 rfl (zx rfl rfl (y7 (v := r12 - r1) rfl (zx rfl rfl (y0 (zx rfl rfl (y7 (v := (r12 - r1) - 1) rfl (zx rfl rfl y19))))))))))))))))))))))))) (zx rfl rfl y29)))))))))))))))))))))))))))))))))))))))))))))))))))))
set_option maxRecDepth 100000 in
theorem qX7_decide_0 (d : Nat) (σ : zS) (x1 : Int32) : zM (d + 1) mX7_decide [.inr (.inr 0), .inl x1] σ = zexec zc_X7_decide zu_X7_decide (zM d) (999999 + 1) 0 [.inr (.inr 0), .inl x1] σ := zM_eq (zat_X7_decide) rfl (Nat.le_of_ble_eq_true rfl)
set_option maxRecDepth 100000 in
theorem qX7_refused_0_0 (d n : Nat) (σ : zS) : zexec zc_X7_refused zu_X7_refused (zM d) (n + 1) 0 [.inr (.inr 0)] σ = some (1, σ 0 11, σ) := ze rfl rfl rfl (zx rfl rfl (y2 rfl (zx rfl rfl (y14 (v := .inl (σ 0 11)) rfl (zx rfl rfl y19)))))
set_option maxRecDepth 100000 in
theorem qX7_refused_0 (d : Nat) (σ : zS) : zM (d + 1) mX7_refused [.inr (.inr 0)] σ = zexec zc_X7_refused zu_X7_refused (zM d) (999999 + 1) 0 [.inr (.inr 0)] σ := zM_eq (zat_X7_refused) rfl (Nat.le_of_ble_eq_true rfl)
set_option maxRecDepth 100000 in
theorem qX7_differs_0_0 (d n : Nat) (σ : zS) : zexec zc_X7_differs zu_X7_differs (zM d) (n + 1) 0 [.inr (.inr 0)] σ = some (1, σ 0 12, σ) := ze rfl rfl rfl (zx rfl rfl (y2 rfl (zx rfl rfl (y14 (v := .inl (σ 0 12)) rfl (zx rfl rfl y19)))))
set_option maxRecDepth 100000 in
theorem qX7_differs_0 (d : Nat) (σ : zS) : zM (d + 1) mX7_differs [.inr (.inr 0)] σ = zexec zc_X7_differs zu_X7_differs (zM d) (999999 + 1) 0 [.inr (.inr 0)] σ := zM_eq (zat_X7_differs) rfl (Nat.le_of_ble_eq_true rfl)
set_option maxRecDepth 100000 in
theorem qX7_happen_0_0 (d n : Nat) (σ : zS) (x1 x2 x3 : Int32) : zexec zc_X7_happen zu_X7_happen (zM d) (n + 1) 0 [.inr (.inr 0), .inl x1, .inl x2, .inl x3] σ = zbI (zM d mX0_addOfOthers [.inr (.inr 24), .inl x1, .inl x2, .inl x3] σ) (fun r1 s1 => if r1 = 0 ∨ r1 = 1 then (some (1, r1, s1)) else (none)) := ze rfl rfl rfl (zx rfl rfl (y2 rfl (zx rfl rfl (y14 (v := .inr (.inr 24)) rfl (zx rfl rfl (y1 rfl (zx rfl rfl (y1 rfl (zx rfl rfl (y1 rfl (zx rfl rfl (y18 (r := []) rfl rfl rfl rfl rfl (fun r1 s1 => zx rfl rfl y19b)))))))))))))
set_option maxRecDepth 100000 in
theorem qX7_happen_0 (d : Nat) (σ : zS) (x1 x2 x3 : Int32) : zM (d + 1) mX7_happen [.inr (.inr 0), .inl x1, .inl x2, .inl x3] σ = zexec zc_X7_happen zu_X7_happen (zM d) (999999 + 1) 0 [.inr (.inr 0), .inl x1, .inl x2, .inl x3] σ := zM_eq (zat_X7_happen) rfl (Nat.le_of_ble_eq_true rfl)
set_option maxRecDepth 100000 in
theorem qX7_crash_0_0 (d n : Nat) (σ : zS) : zexec zc_X7_crash zu_X7_crash (zM d) (n + 1) 0 [.inr (.inr 0)] σ = zbV (zM d mX3_restart [.inr (.inr 30)] σ) (fun s1 => some (0, 0, s1)) := ze rfl rfl rfl (zx rfl rfl (y2 rfl (zx rfl rfl (y14 (v := .inr (.inr 30)) rfl (zx rfl rfl (y30 (r := []) rfl rfl rfl rfl rfl (fun s1 => zx rfl rfl y20)))))))
set_option maxRecDepth 100000 in
theorem qX7_crash_0 (d : Nat) (σ : zS) : zM (d + 1) mX7_crash [.inr (.inr 0)] σ = zexec zc_X7_crash zu_X7_crash (zM d) (999999 + 1) 0 [.inr (.inr 0)] σ := zM_eq (zat_X7_crash) rfl (Nat.le_of_ble_eq_true rfl)
set_option maxRecDepth 100000 in
theorem qX7_clear_0_0 (d n : Nat) (σ : zS) : zexec zc_X7_clear zu_X7_clear (zM d) (n + 1) 0 [.inr (.inr 0)] σ = zbV (zM d mX0_wipe [.inr (.inr 24)] σ) (fun s1 => zbV (zM d mX3_restart [.inr (.inr 30)] s1) (fun s2 => zbV (zM d mX3_restart [.inr (.inr 32)] s2) (fun s3 => some (0, 0, s3)))) := ze rfl rfl rfl (zx rfl rfl (y2 rfl (zx rfl rfl (y14 (v := .inr (.inr 24)) rfl (zx rfl rfl (y30 (r := []) rfl rfl rfl rfl rfl (fun s1 => zx rfl rfl (y2 rfl (zx rfl rfl (y14 (v := .inr (.inr 30)) rfl (zx rfl rfl (y30 (r := []) rfl rfl rfl rfl rfl (fun s2 => zx rfl rfl (y2 rfl (zx rfl rfl (y14 (v := .inr (.inr 32)) rfl (zx rfl rfl (y30 (r := []) rfl rfl rfl rfl rfl (fun s3 => zx rfl rfl y20)))))))))))))))))))
set_option maxRecDepth 100000 in
theorem qX7_clear_0 (d : Nat) (σ : zS) : zM (d + 1) mX7_clear [.inr (.inr 0)] σ = zexec zc_X7_clear zu_X7_clear (zM d) (999999 + 1) 0 [.inr (.inr 0)] σ := zM_eq (zat_X7_clear) rfl (Nat.le_of_ble_eq_true rfl)
set_option maxRecDepth 100000 in
theorem qX7_event_0_0 (d n : Nat) (σ : zS) (x1 x2 : Int32) : zexec zc_X7_event zu_X7_event (zM d) (n + 1) 0 [.inr (.inr 0), .inl x1, .inl x2] σ = zbI (zM d mX0_holds [.inr (.inr 24), .inl x1] σ) (fun r1 s1 => if r1 = 0 then (some (2, 0, s1)) else (if x2 < 0 then (some (2, 0, s1)) else (if 2 < x2 then (some (2, 0, s1)) else (if x2 = 0 then (zbI (zM d mX0_kindAt [.inr (.inr 24), .inl x1] s1) (fun r2 s2 => some (1, r2, s2))) else (if x2 = 1 then (zbI (zM d mX0_refAt [.inr (.inr 24), .inl x1] s1) (fun r3 s3 => some (1, r3, s3))) else (zbI (zM d mX0_valueAt [.inr (.inr 24), .inl x1] s1) (fun r4 s4 => some (1, r4, s4)))))))) := ze rfl rfl rfl (zx rfl rfl (y2 rfl (zx rfl rfl (y14 (v := .inr (.inr 24)) rfl (zx rfl rfl (y1 rfl (zx rfl rfl (y18 (r := []) rfl rfl rfl rfl rfl (fun r1 s1 => zx rfl rfl (y32 (zx rfl rfl y29) (zx rfl rfl (y1 rfl (zx rfl rfl (y33 (zx rfl rfl y29) (zx rfl rfl (y1 rfl (zx rfl rfl (y0 (zx rfl rfl (y37 (zx rfl rfl y29) (zx rfl rfl (y1 rfl (zx rfl rfl (y32 (zx rfl rfl (y2 rfl (zx rfl rfl (y14 (v := .inr (.inr 24)) rfl (zx rfl rfl (y1 rfl (zx rfl rfl (y18 (r := []) rfl rfl rfl rfl rfl (fun r2 s2 => zx rfl rfl y19))))))))) (zx rfl rfl (y1 rfl (zx rfl rfl (y0 (zx rfl rfl (y35 (zx rfl rfl (y2 rfl (zx rfl rfl (y14 (v := .inr (.inr 24)) rfl (zx rfl rfl (y1 rfl (zx rfl rfl (y18 (r := []) rfl rfl rfl rfl rfl (fun r3 s3 => zx rfl rfl (y12 (zx rfl rfl y19))))))))))) (zx rfl rfl (y2 rfl (zx rfl rfl (y14 (v := .inr (.inr 24)) rfl (zx rfl rfl (y1 rfl (zx rfl rfl (y18 (r := []) rfl rfl rfl rfl rfl (fun r4 s4 => zx rfl rfl y19)))))))))))))))))))))))))))))))))))))))
set_option maxRecDepth 100000 in
theorem qX7_event_0 (d : Nat) (σ : zS) (x1 x2 : Int32) : zM (d + 1) mX7_event [.inr (.inr 0), .inl x1, .inl x2] σ = zexec zc_X7_event zu_X7_event (zM d) (999999 + 1) 0 [.inr (.inr 0), .inl x1, .inl x2] σ := zM_eq (zat_X7_event) rfl (Nat.le_of_ble_eq_true rfl)
set_option maxRecDepth 100000 in
theorem qX7_register_0_0 (d n : Nat) (σ : zS) (x1 : Int32) : zexec zc_X7_register zu_X7_register (zM d) (n + 1) 0 [.inr (.inr 0), .inl x1] σ = if x1 < 0 then (some (2, 0, σ)) else (if x1 < 8 then (zbI (zM d mX3_get [.inr (.inr 32), .inl x1] σ) (fun r1 s1 => some (1, r1, s1))) else (some (2, 0, σ))) := ze rfl rfl rfl (zx rfl rfl (y1 rfl (zx rfl rfl (y33 (zx rfl rfl y29) (zx rfl rfl (y1 rfl (zx rfl rfl (y0 (zx rfl rfl (y36 (zx rfl rfl (y2 rfl (zx rfl rfl (y14 (v := .inr (.inr 32)) rfl (zx rfl rfl (y1 rfl (zx rfl rfl (y18 (r := []) rfl rfl rfl rfl rfl (fun r1 s1 => zx rfl rfl y19))))))))) (zx rfl rfl y29)))))))))))
set_option maxRecDepth 100000 in
theorem qX7_register_0 (d : Nat) (σ : zS) (x1 : Int32) : zM (d + 1) mX7_register [.inr (.inr 0), .inl x1] σ = zexec zc_X7_register zu_X7_register (zM d) (999999 + 1) 0 [.inr (.inr 0), .inl x1] σ := zM_eq (zat_X7_register) rfl (Nat.le_of_ble_eq_true rfl)
set_option maxRecDepth 100000 in
theorem qX7_total_0_0 (d n : Nat) (σ : zS) (x1 : Int32) : zexec zc_X7_total zu_X7_total (zM d) (n + 1) 0 [.inr (.inr 0), .inl x1] σ = if x1 = 0 then (zbI (zM d mX0_size [.inr (.inr 24)] σ) (fun r3 s3 => some (1, r3, s3))) else (if x1 = 1 then (zbI (zM d mX0_count [.inr (.inr 24), .inl 1, .inl 4] σ) (fun r2 s2 => some (1, r2, s2))) else (if x1 = 2 then (zbI (zM d mX0_count [.inr (.inr 24), .inl 0, .inl 0] σ) (fun r1 s1 => some (1, r1, s1))) else (if x1 = 3 then (if (σ 32 5) = 0 then (some (1, 0, σ)) else (some (1, 1, σ))) else (if x1 = 4 then (some (1, σ 32 3, σ)) else (if x1 = 5 then (some (1, σ 32 2, σ)) else (some (1, (-1), σ))))))) := ze rfl rfl rfl (zx rfl rfl (y1 rfl (zx rfl rfl (y13 (ysw (zx rfl rfl (y2 rfl (zx rfl rfl (y14 (v := .inr (.inr 24)) rfl (zx rfl rfl (y18 (r := []) rfl rfl rfl rfl rfl (fun r3 s3 => zx rfl rfl y19))))))) (ysw (zx rfl rfl (y2 rfl (zx rfl rfl (y14 (v := .inr (.inr 24)) rfl (zx rfl rfl (y0 (zx rfl rfl (y0 (zx rfl rfl (y18 (r := []) rfl rfl rfl rfl rfl (fun r2 s2 => zx rfl rfl y19))))))))))) (ysw (zx rfl rfl (y2 rfl (zx rfl rfl (y14 (v := .inr (.inr 24)) rfl (zx rfl rfl (y0 (zx rfl rfl (y0 (zx rfl rfl (y18 (r := []) rfl rfl rfl rfl rfl (fun r1 s1 => zx rfl rfl y19))))))))))) (ysw (zx rfl rfl (y2 rfl (zx rfl rfl (y14 (v := .inr (.inr 32)) rfl (zx rfl rfl (y14 (v := .inl (σ 32 5)) rfl (zx rfl rfl (y32 (zx rfl rfl (y0 (zx rfl rfl y19))) (zx rfl rfl (y0 (zx rfl rfl (y12 (zx rfl rfl y19))))))))))))) (ysw (zx rfl rfl (y2 rfl (zx rfl rfl (y14 (v := .inr (.inr 32)) rfl (zx rfl rfl (y14 (v := .inl (σ 32 3)) rfl (zx rfl rfl y19))))))) (ysw (zx rfl rfl (y2 rfl (zx rfl rfl (y14 (v := .inr (.inr 32)) rfl (zx rfl rfl (y14 (v := .inl (σ 32 2)) rfl (zx rfl rfl y19))))))) (yswd (zx rfl rfl (y0 (zx rfl rfl y19))))))))))))))
set_option maxRecDepth 100000 in
theorem qX7_total_0 (d : Nat) (σ : zS) (x1 : Int32) : zM (d + 1) mX7_total [.inr (.inr 0), .inl x1] σ = zexec zc_X7_total zu_X7_total (zM d) (999999 + 1) 0 [.inr (.inr 0), .inl x1] σ := zM_eq (zat_X7_total) rfl (Nat.le_of_ble_eq_true rfl)
set_option maxRecDepth 100000 in
theorem qX5_put_1_0 (d n : Nat) (σ : zS) (x3 : Int32) (x1 : Int64) : zexec zc_X5_put zu_X5_put (zM d) (n + 1) 0 [.inr (.inr 1), .inr (.inl x1), .inl x3] σ = if x3 < 1 then (some (1, 0, σ)) else (if 8 < x3 then (some (1, 0, σ)) else (if (400 - (σ 1 1)) < x3 then (some (1, 0, σ)) else (zexec zc_X5_put zu_X5_put (zM d) n 28 [.inr (.inr 1), .inr (.inl x1), .inl x3, .inl 0] σ))) := ze rfl rfl rfl (zx rfl rfl (y1 rfl (zx rfl rfl (y0 (zx rfl rfl (y36 (zx rfl rfl (y0 (zx rfl rfl (y19l (by decide))))) (zx rfl rfl (y1 rfl (zx rfl rfl (y0 (zx rfl rfl (y37 (zx rfl rfl (y0 (zx rfl rfl (y19l (by decide))))) (zx rfl rfl (y1 rfl (zx rfl rfl (y0 (zx rfl rfl (y2 rfl (zx rfl rfl (y14 (v := .inl (σ 1 1)) rfl (zx rfl rfl (y7 (v := 400 - (σ 1 1)) rfl (zx rfl rfl (y37 (zx rfl rfl (y0 (zx rfl rfl (y19l (by decide))))) (zx rfl rfl (y0 (zx rfl rfl (y4 rfl (zxc rfl rfl rfl rfl)))))))))))))))))))))))))))))
set_option maxRecDepth 100000 in
theorem qX5_put_1 (d : Nat) (σ : zS) (x3 : Int32) (x1 : Int64) : zM (d + 1) mX5_put [.inr (.inr 1), .inr (.inl x1), .inl x3] σ = zexec zc_X5_put zu_X5_put (zM d) (999999 + 1) 0 [.inr (.inr 1), .inr (.inl x1), .inl x3] σ := zM_eq (zat_X5_put) rfl (Nat.le_of_ble_eq_true rfl)
set_option maxRecDepth 100000 in
theorem qX5_put_1_28 (d n : Nat) (σ : zS) (x3 x4 : Int32) (x1 : Int64) : zexec zc_X5_put zu_X5_put (zM d) (n + 1) 28 [.inr (.inr 1), .inr (.inl x1), .inl x3, .inl x4] σ = if x4 < x3 then (zbI (zM d mX5_byteOf [.inr (.inl x1), .inl x4] σ) (fun r1 s1 => if r1 < 32 then (some (1, 0, s1)) else (if 126 < r1 then (some (1, 0, s1)) else (zexec zc_X5_put zu_X5_put (zM d) n 28 [.inr (.inr 1), .inr (.inl x1), .inl x3, .inl (x4 + 1)] s1)))) else (zexec zc_X5_put zu_X5_put (zM d) n 69 [.inr (.inr 1), .inr (.inl x1), .inl (x3 - 1)] σ) := ze rfl rfl rfl (zx rfl rfl (y1 rfl (zx rfl rfl (y1 rfl (zx rfl rfl (y36 (zx rfl rfl (y3 rfl (zx rfl rfl (y1 rfl (zx rfl rfl (y18 (r := []) rfl rfl rfl rfl rfl (fun r1 s1 => zx rfl rfl (y4 rfl (zx rfl rfl (y1 rfl (zx rfl rfl (y0 (zx rfl rfl (y36 (zx rfl rfl (y0 (zx rfl rfl (y19l (by decide))))) (zx rfl rfl (y1 rfl (zx rfl rfl (y0 (zx rfl rfl (y37 (zx rfl rfl (y0 (zx rfl rfl (y19l (by decide))))) (zx rfl rfl (y6 rfl rfl (zx rfl rfl (y12 (zxc rfl rfl rfl rfl))))))))))))))))))))))))) (zx rfl rfl (y1 rfl (zx rfl rfl (y0 (zx rfl rfl (y7 (v := x3 - 1) rfl (zx rfl rfl (y4 rfl (zxc rfl rfl rfl rfl)))))))))))))))
set_option maxRecDepth 100000 in
theorem qX5_put_1_69 (d n : Nat) (σ : zS) (x4 : Int32) (x1 : Int64) : zexec zc_X5_put zu_X5_put (zM d) (n + 1) 69 [.inr (.inr 1), .inr (.inl x1), .inl x4] σ = if x4 < 0 then (some (1, 1, σ)) else (if (σ 1 1) < 400 then (zbI (zM d mX5_byteOf [.inr (.inl x1), .inl x4] σ) (fun r1 s1 => if (σ 1 1) < 0 ∨ 400 ≤ (σ 1 1).toNatClampNeg then (none) else (zexec zc_X5_put zu_X5_put (zM d) n 69 [.inr (.inr 1), .inr (.inl x1), .inl (x4 + (-1))] (wr (wr s1 2 ((σ 1 1).toNatClampNeg) (vp_nar .char ((r1.toUInt32 % 65536).toInt32))) 1 1 ((s1 1 1) + 1))))) else (some (1, 1, σ))) := ze rfl rfl rfl (zx rfl rfl (y1 rfl (zx rfl rfl (y33 (zx rfl rfl (y0 (zx rfl rfl (y19l (by decide))))) (zx rfl rfl (y2 rfl (zx rfl rfl (y14 (v := .inl (σ 1 1)) rfl (zx rfl rfl (y0 (zx rfl rfl (y36 (zx rfl rfl (y2 rfl (zx rfl rfl (y14 (v := .inr (.inr 2)) rfl (zx rfl rfl (y2 rfl (zx rfl rfl (y14 (v := .inl (σ 1 1)) rfl (zx rfl rfl (y3 rfl (zx rfl rfl (y1 rfl (zx rfl rfl (y18 (r := [.inl (σ 1 1), .inr (.inr 2)]) rfl rfl rfl rfl rfl (fun r1 s1 => zx rfl rfl (y8 (v := (r1.toUInt32 % 65536).toInt32) rfl (zx rfl rfl (y17c rfl (zx rfl rfl (y2 rfl (zx rfl rfl (y21 rfl (zx rfl rfl (y14 (v := .inl (s1 1 1)) rfl (zx rfl rfl (y0 (zx rfl rfl (y7 (v := (s1 1 1) + 1) rfl (zx rfl rfl (y15 rfl (zx rfl rfl (y6 rfl rfl (zx rfl rfl (y12 (zxc rfl rfl rfl rfl))))))))))))))))))))))))))))))))))) (zx rfl rfl (y0 (zx rfl rfl (y19l (by decide)))))))))))))))))
set_option maxRecDepth 100000 in
theorem qX6_scan_3_1_0 (d n : Nat) (σ : zS) : zexec zc_X6_scan zu_X6_scan (zM d) (n + 1) 0 [.inr (.inr 3), .inr (.inr 1)] σ = zexec zc_X6_scan zu_X6_scan (zM d) n 12 [.inr (.inr 3), .inr (.inr 1), .inl 0] (wr (wr σ 3 3 0) 3 4 0) := ze rfl rfl rfl (zx rfl rfl (y2 rfl (zx rfl rfl (y0 (zx rfl rfl (y15 rfl (zx rfl rfl (y2 rfl (zx rfl rfl (y0 (zx rfl rfl (y15 rfl (zx rfl rfl (y0 (zx rfl rfl (y4 rfl (zxc rfl rfl rfl rfl)))))))))))))))))
set_option maxRecDepth 100000 in
theorem qX6_scan_3_1 (d : Nat) (σ : zS) : zM (d + 1) mX6_scan [.inr (.inr 3), .inr (.inr 1)] σ = zexec zc_X6_scan zu_X6_scan (zM d) (999999 + 1) 0 [.inr (.inr 3), .inr (.inr 1)] σ := zM_eq (zat_X6_scan) rfl (Nat.le_of_ble_eq_true rfl)
set_option maxRecDepth 100000 in
theorem qX6_scan_3_1_12 (d n : Nat) (σ : zS) (x2 : Int32) : zexec zc_X6_scan zu_X6_scan (zM d) (n + 1) 12 [.inr (.inr 3), .inr (.inr 1), .inl x2] σ = zbI (zM d mX5_length [.inr (.inr 1)] σ) (fun r1 s1 => if x2 < r1 then (zbI (zM d mX6_isStart [.inr (.inr 1), .inl x2] s1) (fun r2 s2 => if r2 = 0 then (zexec zc_X6_scan zu_X6_scan (zM d) n 12 [.inr (.inr 3), .inr (.inr 1), .inl (x2 + 1)] s2) else (zbV (zM d mX6_addFrom [.inr (.inr 3), .inr (.inr 1), .inl x2] s2) (fun s3 => zexec zc_X6_scan zu_X6_scan (zM d) n 12 [.inr (.inr 3), .inr (.inr 1), .inl (x2 + 1)] s3)))) else (zbI (zM d mX5_length [.inr (.inr 1)] s1) (fun r4 s4 => zbV (zM d mX6_add [.inr (.inr 3), .inl 0, .inl r4, .inl 0] s4) (fun s5 => some (0, 0, s5))))) := ze rfl rfl rfl (zx rfl rfl (y1 rfl (zx rfl rfl (y2 rfl (zx rfl rfl (y18 (r := [.inl x2]) rfl rfl rfl rfl rfl (fun r1 s1 => zx rfl rfl (y36 (zx rfl rfl (y2 rfl (zx rfl rfl (y1 rfl (zx rfl rfl (y18 (r := []) rfl rfl rfl rfl rfl (fun r2 s2 => zx rfl rfl (y32 (zx rfl rfl (y6 rfl rfl (zx rfl rfl (y12 (zxc rfl rfl rfl rfl))))) (zx rfl rfl (y2 rfl (zx rfl rfl (y2 rfl (zx rfl rfl (y1 rfl (zx rfl rfl (y30 (r := []) rfl rfl rfl rfl rfl (fun s3 => zx rfl rfl (y6 rfl rfl (zx rfl rfl (y12 (zxc rfl rfl rfl rfl))))))))))))))))))))) (zx rfl rfl (y2 rfl (zx rfl rfl (y0 (zx rfl rfl (y2 rfl (zx rfl rfl (y18 (r := [.inl 0, .inr (.inr 3)]) rfl rfl rfl rfl rfl (fun r4 s4 => zx rfl rfl (y0 (zx rfl rfl (y30 (r := []) rfl rfl rfl rfl rfl (fun s5 => zx rfl rfl y20)))))))))))))))))))))
set_option maxRecDepth 100000 in
theorem qX5_wipe_1_0 (d n : Nat) (σ : zS) : zexec zc_X5_wipe zu_X5_wipe (zM d) (n + 1) 0 [.inr (.inr 1)] σ = some (0, 0, wr σ 1 1 0) := ze rfl rfl rfl (zx rfl rfl (y2 rfl (zx rfl rfl (y0 (zx rfl rfl (y15 rfl (zx rfl rfl y20)))))))
set_option maxRecDepth 100000 in
theorem qX5_wipe_1 (d : Nat) (σ : zS) : zM (d + 1) mX5_wipe [.inr (.inr 1)] σ = zexec zc_X5_wipe zu_X5_wipe (zM d) (999999 + 1) 0 [.inr (.inr 1)] σ := zM_eq (zat_X5_wipe) rfl (Nat.le_of_ble_eq_true rfl)
set_option maxRecDepth 100000 in
theorem qX2_read_23_0 (d n : Nat) (σ : zS) : zexec zc_X2_read zu_X2_read (zM d) (n + 1) 0 [.inr (.inr 23)] σ = zbV (zM d mX1_wipe [.inr (.inr 7)] σ) (fun s1 => zbI (zM d mX2_readStatements [.inr (.inr 23), .inl 0] s1) (fun r2 s2 => if r2 = 0 then (zbI (zM d mX6_place [.inr (.inr 3)] s2) (fun r3 s3 => some (1, r3, s3))) else (zbI (zM d mX6_kind [.inr (.inr 3)] s2) (fun r4 s4 => if r4 = 0 then (some (1, (-1), s4)) else (zbI (zM d mX6_place [.inr (.inr 3)] s4) (fun r5 s5 => some (1, r5, s5))))))) := ze rfl rfl rfl (zx rfl rfl (y2 rfl (zx rfl rfl (y14 (v := .inr (.inr 7)) rfl (zx rfl rfl (y30 (r := []) rfl rfl rfl rfl rfl (fun s1 => zx rfl rfl (y2 rfl (zx rfl rfl (y0 (zx rfl rfl (y18 (r := []) rfl rfl rfl rfl rfl (fun r2 s2 => zx rfl rfl (y32 (zx rfl rfl (y0 (zx rfl rfl (y4 rfl (zx rfl rfl (y1 rfl (zx rfl rfl ((y32 rfl rfl).trans (yif (by decide) (zx rfl rfl (y2 rfl (zx rfl rfl (y14 (v := .inr (.inr 3)) rfl (zx rfl rfl (y18 (r := []) rfl rfl rfl rfl rfl (fun r3 s3 => zx rfl rfl y19)))))))))))))))) (zx rfl rfl (y2 rfl (zx rfl rfl (y14 (v := .inr (.inr 3)) rfl (zx rfl rfl (y18 (r := []) rfl rfl rfl rfl rfl (fun r4 s4 => zx rfl rfl (y32 (zx rfl rfl (y0 (zx rfl rfl (y12 (zx rfl rfl (y4 rfl (zx rfl rfl (y1 rfl (zx rfl rfl ((y32 rfl rfl).trans (yel (by decide) (zx rfl rfl (y0 (zx rfl rfl (y12 (zx rfl rfl y19)))))))))))))))) (zx rfl rfl (y0 (zx rfl rfl (y4 rfl (zx rfl rfl (y1 rfl (zx rfl rfl ((y32 rfl rfl).trans (yif (by decide) (zx rfl rfl (y2 rfl (zx rfl rfl (y14 (v := .inr (.inr 3)) rfl (zx rfl rfl (y18 (r := []) rfl rfl rfl rfl rfl (fun r5 s5 => zx rfl rfl y19))))))))))))))))))))))))))))))))))))))
set_option maxRecDepth 100000 in
theorem qX2_read_23 (d : Nat) (σ : zS) : zM (d + 1) mX2_read [.inr (.inr 23)] σ = zexec zc_X2_read zu_X2_read (zM d) (999999 + 1) 0 [.inr (.inr 23)] σ := zM_eq (zat_X2_read) rfl (Nat.le_of_ble_eq_true rfl)
set_option maxRecDepth 100000 in
theorem qX1_copyFrom_15_7_0 (d n : Nat) (σ : zS) : zexec zc_X1_copyFrom zu_X1_copyFrom (zM d) (n + 1) 0 [.inr (.inr 15), .inr (.inr 7)] σ = some (0, 0, wr (wr (wr (wcp (wcp (wcp (wcp (wcp (wcp (wcp σ 8 16 200) 9 17 200) 10 18 200) 11 19 200) 12 20 200) 13 21 400) 14 22 400) 15 7 (σ 7 7)) 15 8 (σ 7 8)) 15 9 (σ 7 9)) := ze rfl rfl rfl (zx rfl rfl (y2 rfl (zx rfl rfl (y14 (v := .inr (.inr 8)) rfl (zx rfl rfl (y0 (zx rfl rfl (y2 rfl (zx rfl rfl (y14 (v := .inr (.inr 16)) rfl (zx rfl rfl (y0 (zx rfl rfl (y0 (zx rfl rfl (y25 (m := 200) rfl rfl (by decide) rfl (zx rfl rfl (y2 rfl (zx rfl rfl (y14 (v := .inr (.inr 9)) rfl (zx rfl rfl (y0 (zx rfl rfl (y2 rfl (zx rfl rfl (y14 (v := .inr (.inr 17)) rfl (zx rfl rfl (y0 (zx rfl rfl (y0 (zx rfl rfl (y25 (m := 200) rfl rfl (by decide) rfl (zx rfl rfl (y2 rfl (zx rfl rfl (y14 (v := .inr (.inr 10)) rfl (zx rfl rfl (y0 (zx rfl rfl (y2 rfl (zx rfl rfl (y14 (v := .inr (.inr 18)) rfl (zx rfl rfl (y0 (zx rfl rfl (y0 (zx rfl rfl (y25 (m := 200) rfl rfl (by decide) rfl (zx rfl rfl (y2 rfl (zx rfl rfl (y14 (v := .inr (.inr 11)) rfl (zx rfl rfl (y0 (zx rfl rfl (y2 rfl (zx rfl rfl (y14 (v := .inr (.inr 19)) rfl (zx rfl rfl (y0 (zx rfl rfl (y0 (zx rfl rfl (y25 (m := 200) rfl rfl (by decide) rfl (zx rfl rfl (y2 rfl (zx rfl rfl (y14 (v := .inr (.inr 12)) rfl (zx rfl rfl (y0 (zx rfl rfl (y2 rfl (zx rfl rfl (y14 (v := .inr (.inr 20)) rfl (zx rfl rfl (y0 (zx rfl rfl (y0 (zx rfl rfl (y25 (m := 200) rfl rfl (by decide) rfl (zx rfl rfl (y2 rfl (zx rfl rfl (y14 (v := .inr (.inr 13)) rfl (zx rfl rfl (y0 (zx rfl rfl (y2 rfl (zx rfl rfl (y14 (v := .inr (.inr 21)) rfl (zx rfl rfl (y0 (zx rfl rfl (y0 (zx rfl rfl (y25 (m := 400) rfl rfl (by decide) rfl (zx rfl rfl (y2 rfl (zx rfl rfl (y14 (v := .inr (.inr 14)) rfl (zx rfl rfl (y0 (zx rfl rfl (y2 rfl (zx rfl rfl (y14 (v := .inr (.inr 22)) rfl (zx rfl rfl (y0 (zx rfl rfl (y0 (zx rfl rfl (y25 (m := 400) rfl rfl (by decide) rfl (zx rfl rfl (y2 rfl (zx rfl rfl (y2 rfl (zx rfl rfl (y14 (v := .inl (σ 7 7)) rfl (zx rfl rfl (y15 rfl (zx rfl rfl (y2 rfl (zx rfl rfl (y2 rfl (zx rfl rfl (y14 (v := .inl (σ 7 8)) rfl (zx rfl rfl (y15 rfl (zx rfl rfl (y2 rfl (zx rfl rfl (y2 rfl (zx rfl rfl (y14 (v := .inl (σ 7 9)) rfl (zx rfl rfl (y15 rfl (zx rfl rfl y20)))))))))))))))))))))))))))))))))))))))))))))))))))))))))))))))))))))))))))))))))))))))))))))))))))))))))))))))))))))))))))))))))))))))))
set_option maxRecDepth 100000 in
theorem qX1_copyFrom_15_7 (d : Nat) (σ : zS) : zM (d + 1) mX1_copyFrom [.inr (.inr 15), .inr (.inr 7)] σ = zexec zc_X1_copyFrom zu_X1_copyFrom (zM d) (999999 + 1) 0 [.inr (.inr 15), .inr (.inr 7)] σ := zM_eq (zat_X1_copyFrom) rfl (Nat.le_of_ble_eq_true rfl)
set_option maxRecDepth 100000 in
theorem qX3_restart_30_0 (d n : Nat) (σ : zS) : zexec zc_X3_restart zu_X3_restart (zM d) (n + 1) 0 [.inr (.inr 30)] σ = zexec zc_X3_restart zu_X3_restart (zM d) n 2 [.inr (.inr 30), .inl 0] σ := ze rfl rfl rfl (zx rfl rfl (y0 (zx rfl rfl (y4 rfl (zxc rfl rfl rfl rfl)))))
set_option maxRecDepth 100000 in
theorem qX3_restart_30 (d : Nat) (σ : zS) : zM (d + 1) mX3_restart [.inr (.inr 30)] σ = zexec zc_X3_restart zu_X3_restart (zM d) (999999 + 1) 0 [.inr (.inr 30)] σ := zM_eq (zat_X3_restart) rfl (Nat.le_of_ble_eq_true rfl)
set_option maxRecDepth 100000 in
theorem qX3_restart_30_2 (d n : Nat) (σ : zS) (x1 : Int32) : zexec zc_X3_restart zu_X3_restart (zM d) (n + 1) 2 [.inr (.inr 30), .inl x1] σ = if x1 < 8 then (if x1 < 0 ∨ 8 ≤ x1.toNatClampNeg then (none) else (zexec zc_X3_restart zu_X3_restart (zM d) n 2 [.inr (.inr 30), .inl (x1 + 1)] (wr σ 31 x1.toNatClampNeg 0))) else (some (0, 0, wr (wr (wr (wr (wr σ 30 1 0) 30 2 0) 30 3 0) 30 4 0) 30 5 0)) := ze rfl rfl rfl (zx rfl rfl (y1 rfl (zx rfl rfl (y0 (zx rfl rfl (y36 (zx rfl rfl (y2 rfl (zx rfl rfl (y14 (v := .inr (.inr 31)) rfl (zx rfl rfl (y1 rfl (zx rfl rfl (y0 (zx rfl rfl (y17 rfl (zx rfl rfl (y6 rfl rfl (zx rfl rfl (y12 (zxc rfl rfl rfl rfl))))))))))))))) (zx rfl rfl (y2 rfl (zx rfl rfl (y0 (zx rfl rfl (y15 rfl (zx rfl rfl (y2 rfl (zx rfl rfl (y0 (zx rfl rfl (y15 rfl (zx rfl rfl (y2 rfl (zx rfl rfl (y0 (zx rfl rfl (y15 rfl (zx rfl rfl (y2 rfl (zx rfl rfl (y0 (zx rfl rfl (y15 rfl (zx rfl rfl (y2 rfl (zx rfl rfl (y0 (zx rfl rfl (y31l rfl (by decide) (zx rfl rfl y20)))))))))))))))))))))))))))))))))))))
set_option maxRecDepth 100000 in
theorem qX1_statementCount_15_0 (d n : Nat) (σ : zS) : zexec zc_X1_statementCount zu_X1_statementCount (zM d) (n + 1) 0 [.inr (.inr 15)] σ = some (1, (σ 15 7) - (σ 15 9), σ) := ze rfl rfl rfl (zx rfl rfl (y2 rfl (zx rfl rfl (y14 (v := .inl (σ 15 7)) rfl (zx rfl rfl (y2 rfl (zx rfl rfl (y14 (v := .inl (σ 15 9)) rfl (zx rfl rfl (y7 (v := (σ 15 7) - (σ 15 9)) rfl (zx rfl rfl y19)))))))))))
set_option maxRecDepth 100000 in
theorem qX1_statementCount_15 (d : Nat) (σ : zS) : zM (d + 1) mX1_statementCount [.inr (.inr 15)] σ = zexec zc_X1_statementCount zu_X1_statementCount (zM d) (999999 + 1) 0 [.inr (.inr 15)] σ := zM_eq (zat_X1_statementCount) rfl (Nat.le_of_ble_eq_true rfl)
set_option maxRecDepth 100000 in
theorem qX0_size_24_0 (d n : Nat) (σ : zS) : zexec zc_X0_size zu_X0_size (zM d) (n + 1) 0 [.inr (.inr 24)] σ = some (1, σ 24 5, σ) := ze rfl rfl rfl (zx rfl rfl (y2 rfl (zx rfl rfl (y14 (v := .inl (σ 24 5)) rfl (zx rfl rfl y19)))))
set_option maxRecDepth 100000 in
theorem qX0_size_24 (d : Nat) (σ : zS) : zM (d + 1) mX0_size [.inr (.inr 24)] σ = zexec zc_X0_size zu_X0_size (zM d) (999999 + 1) 0 [.inr (.inr 24)] σ := zM_eq (zat_X0_size) rfl (Nat.le_of_ble_eq_true rfl)
set_option maxRecDepth 100000 in
theorem qX4_catchUp_34_0 (d n : Nat) (σ : zS) : zexec zc_X4_catchUp zu_X4_catchUp (zM d) (n + 1) 0 [.inr (.inr 34)] σ = zexec zc_X4_catchUp zu_X4_catchUp (zM d) n 8 [.inr (.inr 34), .inl (σ 30 4)] σ := ze rfl rfl rfl (zx rfl rfl (y2 rfl (zx rfl rfl (y14 (v := .inr (.inr 30)) rfl (zx rfl rfl (y14 (v := .inl (σ 30 4)) rfl (zx rfl rfl (y4 rfl (zxc rfl rfl rfl rfl)))))))))
set_option maxRecDepth 100000 in
theorem qX4_catchUp_34 (d : Nat) (σ : zS) : zM (d + 1) mX4_catchUp [.inr (.inr 34)] σ = zexec zc_X4_catchUp zu_X4_catchUp (zM d) (999999 + 1) 0 [.inr (.inr 34)] σ := zM_eq (zat_X4_catchUp) rfl (Nat.le_of_ble_eq_true rfl)
set_option maxRecDepth 100000 in
theorem qX4_catchUp_34_8 (d n : Nat) (σ : zS) (x1 : Int32) : zexec zc_X4_catchUp zu_X4_catchUp (zM d) (n + 1) 8 [.inr (.inr 34), .inl x1] σ = zbI (zM d mX0_size [.inr (.inr 24)] σ) (fun r1 s1 => if x1 < r1 then (zbI (zM d mX0_kindAt [.inr (.inr 24), .inl x1] s1) (fun r2 s2 => if r2 = 0 then (zbI (zM d mX0_decisionEnd [.inr (.inr 24), .inl x1] s2) (fun r3 s3 => zbV (zM d mX4_runDecision [.inr (.inr 34), .inl x1, .inl r3, .inl 0] s3) (fun s4 => if (s4 34 11) = 0 then (zexec zc_X4_catchUp zu_X4_catchUp (zM d) n 8 [.inr (.inr 34), .inl (x1 + 1)] s4) else (zbV (zM d mX3_restart [.inr (.inr 30)] s4) (fun s5 => some (1, s5 34 11, s5)))))) else (zexec zc_X4_catchUp zu_X4_catchUp (zM d) n 8 [.inr (.inr 34), .inl (x1 + 1)] s2))) else (zbI (zM d mX0_size [.inr (.inr 24)] s1) (fun r6 s6 => some (1, 0, wr s6 30 4 r6)))) := ze rfl rfl rfl (zx rfl rfl (y1 rfl (zx rfl rfl (y2 rfl (zx rfl rfl (y14 (v := .inr (.inr 24)) rfl (zx rfl rfl (y18 (r := [.inl x1]) rfl rfl rfl rfl rfl (fun r1 s1 => zx rfl rfl (y36 (zx rfl rfl (y2 rfl (zx rfl rfl (y14 (v := .inr (.inr 24)) rfl (zx rfl rfl (y1 rfl (zx rfl rfl (y18 (r := []) rfl rfl rfl rfl rfl (fun r2 s2 => zx rfl rfl (y32 (zx rfl rfl (y2 rfl (zx rfl rfl (y1 rfl (zx rfl rfl (y2 rfl (zx rfl rfl (y14 (v := .inr (.inr 24)) rfl (zx rfl rfl (y1 rfl (zx rfl rfl (y18 (r := [.inl x1, .inr (.inr 34)]) rfl rfl rfl rfl rfl (fun r3 s3 => zx rfl rfl (y0 (zx rfl rfl (y30 (r := []) rfl rfl rfl rfl rfl (fun s4 => zx rfl rfl (y2 rfl (zx rfl rfl (y14 (v := .inl (s4 34 11)) rfl (zx rfl rfl (y32 (zx rfl rfl (y6 rfl rfl (zx rfl rfl (y12 (zxc rfl rfl rfl rfl))))) (zx rfl rfl (y2 rfl (zx rfl rfl (y14 (v := .inr (.inr 30)) rfl (zx rfl rfl (y30 (r := []) rfl rfl rfl rfl rfl (fun s5 => zx rfl rfl (y2 rfl (zx rfl rfl (y14 (v := .inl (s5 34 11)) rfl (zx rfl rfl y19))))))))))))))))))))))))))))))))) (zx rfl rfl (y6 rfl rfl (zx rfl rfl (y12 (zxc rfl rfl rfl rfl))))))))))))))) (zx rfl rfl (y2 rfl (zx rfl rfl (y14 (v := .inr (.inr 30)) rfl (zx rfl rfl (y2 rfl (zx rfl rfl (y14 (v := .inr (.inr 24)) rfl (zx rfl rfl (y18 (r := [.inr (.inr 30)]) rfl rfl rfl rfl rfl (fun r6 s6 => zx rfl rfl (y15 rfl (zx rfl rfl (y0 (zx rfl rfl y19)))))))))))))))))))))))))
set_option maxRecDepth 100000 in
theorem qX4_addDecision_34_0 (d n : Nat) (σ : zS) (x1 : Int32) : zexec zc_X4_addDecision zu_X4_addDecision (zM d) (n + 1) 0 [.inr (.inr 34), .inl x1] σ = if (σ 30 5) = 0 then (zbI (zM d mX0_size [.inr (.inr 24)] σ) (fun r1 s1 => zbI (zM d mX0_add [.inr (.inr 24), .inl 0, .inl 0, .inl x1] s1) (fun r2 s2 => if r2 = 0 then (some (1, 5, s2)) else (zbV (zM d mX3_copyFrom [.inr (.inr 35), .inr (.inr 30)] s2) (fun s3 => zbV (zM d mX4_runDecision [.inr (.inr 34), .inl r1, .inl 200, .inl 1] s3) (fun s4 => if (s4 34 11) = 0 then (zbI (zM d mX0_size [.inr (.inr 24)] s4) (fun r5 s5 => some (1, s5 34 11, wr s5 30 4 r5))) else (zbV (zM d mX3_copyFrom [.inr (.inr 30), .inr (.inr 35)] s4) (fun s6 => zbV (zM d mX0_dropDecision [.inr (.inr 24), .inl r1] s6) (fun s7 => some (1, s7 34 11, s7)))))))))) else (some (1, 4, σ)) := ze rfl rfl rfl (zx rfl rfl (y2 rfl (zx rfl rfl (y14 (v := .inr (.inr 30)) rfl (zx rfl rfl (y14 (v := .inl (σ 30 5)) rfl (zx rfl rfl (y32 (zx rfl rfl (y2 rfl (zx rfl rfl (y14 (v := .inr (.inr 24)) rfl (zx rfl rfl (y18 (r := []) rfl rfl rfl rfl rfl (fun r1 s1 => zx rfl rfl (y4 rfl (zx rfl rfl (y2 rfl (zx rfl rfl (y14 (v := .inr (.inr 24)) rfl (zx rfl rfl (y0 (zx rfl rfl (y0 (zx rfl rfl (y1 rfl (zx rfl rfl (y18 (r := []) rfl rfl rfl rfl rfl (fun r2 s2 => zx rfl rfl (y32 (zx rfl rfl (y0 (zx rfl rfl y19))) (zx rfl rfl (y2 rfl (zx rfl rfl (y14 (v := .inr (.inr 35)) rfl (zx rfl rfl (y2 rfl (zx rfl rfl (y14 (v := .inr (.inr 30)) rfl (zx rfl rfl (y30 (r := []) rfl rfl rfl rfl rfl (fun s3 => zx rfl rfl (y2 rfl (zx rfl rfl (y1 rfl (zx rfl rfl (y0 (zx rfl rfl (y0 (zx rfl rfl (y30 (r := []) rfl rfl rfl rfl rfl (fun s4 => zx rfl rfl (y2 rfl (zx rfl rfl (y14 (v := .inl (s4 34 11)) rfl (zx rfl rfl (y32 (zx rfl rfl (y2 rfl (zx rfl rfl (y14 (v := .inr (.inr 30)) rfl (zx rfl rfl (y2 rfl (zx rfl rfl (y14 (v := .inr (.inr 24)) rfl (zx rfl rfl (y18 (r := [.inr (.inr 30)]) rfl rfl rfl rfl rfl (fun r5 s5 => zx rfl rfl (y15 rfl (zx rfl rfl (y12 (zx rfl rfl (y2 rfl (zx rfl rfl (y14 (v := .inl (s5 34 11)) rfl (zx rfl rfl y19))))))))))))))))))) (zx rfl rfl (y2 rfl (zx rfl rfl (y14 (v := .inr (.inr 30)) rfl (zx rfl rfl (y2 rfl (zx rfl rfl (y14 (v := .inr (.inr 35)) rfl (zx rfl rfl (y30 (r := []) rfl rfl rfl rfl rfl (fun s6 => zx rfl rfl (y2 rfl (zx rfl rfl (y14 (v := .inr (.inr 24)) rfl (zx rfl rfl (y1 rfl (zx rfl rfl (y30 (r := []) rfl rfl rfl rfl rfl (fun s7 => zx rfl rfl (y2 rfl (zx rfl rfl (y14 (v := .inl (s7 34 11)) rfl (zx rfl rfl y19))))))))))))))))))))))))))))))))))))))))))))))))))))))))))))))))))))))) (zx rfl rfl (y0 (zx rfl rfl y19)))))))))))
set_option maxRecDepth 100000 in
theorem qX4_addDecision_34 (d : Nat) (σ : zS) (x1 : Int32) : zM (d + 1) mX4_addDecision [.inr (.inr 34), .inl x1] σ = zexec zc_X4_addDecision zu_X4_addDecision (zM d) (999999 + 1) 0 [.inr (.inr 34), .inl x1] σ := zM_eq (zat_X4_addDecision) rfl (Nat.le_of_ble_eq_true rfl)
set_option maxRecDepth 100000 in
theorem qX3_copyFrom_32_30_0 (d n : Nat) (σ : zS) : zexec zc_X3_copyFrom zu_X3_copyFrom (zM d) (n + 1) 0 [.inr (.inr 32), .inr (.inr 30)] σ = if (σ 30 5) = 0 ∨ (σ 30 5) = 1 then (some (0, 0, wr (wr (wr (wr (wr (wcp σ 31 33 8) 32 1 (σ 30 1)) 32 2 (σ 30 2)) 32 3 (σ 30 3)) 32 4 (σ 30 4)) 32 5 (σ 30 5))) else (none) := ze rfl rfl rfl (zx rfl rfl (y2 rfl (zx rfl rfl (y14 (v := .inr (.inr 31)) rfl (zx rfl rfl (y0 (zx rfl rfl (y2 rfl (zx rfl rfl (y14 (v := .inr (.inr 33)) rfl (zx rfl rfl (y0 (zx rfl rfl (y0 (zx rfl rfl (y25 (m := 8) rfl rfl (by decide) rfl (zx rfl rfl (y2 rfl (zx rfl rfl (y2 rfl (zx rfl rfl (y14 (v := .inl (σ 30 1)) rfl (zx rfl rfl (y15 rfl (zx rfl rfl (y2 rfl (zx rfl rfl (y2 rfl (zx rfl rfl (y14 (v := .inl (σ 30 2)) rfl (zx rfl rfl (y15 rfl (zx rfl rfl (y2 rfl (zx rfl rfl (y2 rfl (zx rfl rfl (y14 (v := .inl (σ 30 3)) rfl (zx rfl rfl (y15 rfl (zx rfl rfl (y2 rfl (zx rfl rfl (y2 rfl (zx rfl rfl (y14 (v := .inl (σ 30 4)) rfl (zx rfl rfl (y15 rfl (zx rfl rfl (y2 rfl (zx rfl rfl (y2 rfl (zx rfl rfl (y14 (v := .inl (σ 30 5)) rfl (zx rfl rfl (y31 rfl (zx rfl rfl y20)))))))))))))))))))))))))))))))))))))))))))))))))))))))))
set_option maxRecDepth 100000 in
theorem qX3_copyFrom_32_30 (d : Nat) (σ : zS) : zM (d + 1) mX3_copyFrom [.inr (.inr 32), .inr (.inr 30)] σ = zexec zc_X3_copyFrom zu_X3_copyFrom (zM d) (999999 + 1) 0 [.inr (.inr 32), .inr (.inr 30)] σ := zM_eq (zat_X3_copyFrom) rfl (Nat.le_of_ble_eq_true rfl)
set_option maxRecDepth 100000 in
theorem qX0_addOfOthers_24_0 (d n : Nat) (σ : zS) (x1 x2 x3 : Int32) : zexec zc_X0_addOfOthers zu_X0_addOfOthers (zM d) (n + 1) 0 [.inr (.inr 24), .inl x1, .inl x2, .inl x3] σ = zbI (zM d mX0_fits [.inr (.inr 24), .inl x1, .inl x2, .inl x3] σ) (fun r1 s1 => if r1 = 0 then (some (1, 0, s1)) else (zbI (zM d mX0_add [.inr (.inr 24), .inl x1, .inl x2, .inl x3] s1) (fun r2 s2 => if r2 = 0 then (some (1, 0, s2)) else (if x1 = 8 then (zbV (zM d mX0_addSignal [.inr (.inr 24), .inl (σ 24 5)] s2) (fun s3 => some (1, 1, s3))) else (zbI (zM d mX0_holds [.inr (.inr 24), .inl x2] s2) (fun r4 s4 => if r4 = 0 then (some (1, 1, s4)) else (if x2 < 0 ∨ 200 ≤ x2.toNatClampNeg then (none) else (some (1, 1, wr s4 28 x2.toNatClampNeg (σ 24 5)))))))))) := ze rfl rfl rfl (zx rfl rfl (y2 rfl (zx rfl rfl (y14 (v := .inl (σ 24 5)) rfl (zx rfl rfl (y4 rfl (zx rfl rfl (y2 rfl (zx rfl rfl (y1 rfl (zx rfl rfl (y1 rfl (zx rfl rfl (y1 rfl (zx rfl rfl (y18 (r := []) rfl rfl rfl rfl rfl (fun r1 s1 => zx rfl rfl (y32 (zx rfl rfl (y0 (zx rfl rfl (y19l (by decide))))) (zx rfl rfl (y2 rfl (zx rfl rfl (y1 rfl (zx rfl rfl (y1 rfl (zx rfl rfl (y1 rfl (zx rfl rfl (y18 (r := []) rfl rfl rfl rfl rfl (fun r2 s2 => zx rfl rfl (y32 (zx rfl rfl (y0 (zx rfl rfl (y19l (by decide))))) (zx rfl rfl (y1 rfl (zx rfl rfl (y0 (zx rfl rfl (y35 (zx rfl rfl (y2 rfl (zx rfl rfl (y1 rfl (zx rfl rfl (y30 (r := []) rfl rfl rfl rfl rfl (fun s3 => zx rfl rfl (y12 (zx rfl rfl (y0 (zx rfl rfl (y19l (by decide))))))))))))) (zx rfl rfl (y2 rfl (zx rfl rfl (y1 rfl (zx rfl rfl (y18 (r := []) rfl rfl rfl rfl rfl (fun r4 s4 => zx rfl rfl (y32 (zx rfl rfl (y0 (zx rfl rfl (y19l (by decide))))) (zx rfl rfl (y2 rfl (zx rfl rfl (y14 (v := .inr (.inr 28)) rfl (zx rfl rfl (y1 rfl (zx rfl rfl (y1 rfl (zx rfl rfl (y17 rfl (zx rfl rfl (y0 (zx rfl rfl (y19l (by decide)))))))))))))))))))))))))))))))))))))))))))))))))))))))))))
set_option maxRecDepth 100000 in
theorem qX0_addOfOthers_24 (d : Nat) (σ : zS) (x1 x2 x3 : Int32) : zM (d + 1) mX0_addOfOthers [.inr (.inr 24), .inl x1, .inl x2, .inl x3] σ = zexec zc_X0_addOfOthers zu_X0_addOfOthers (zM d) (999999 + 1) 0 [.inr (.inr 24), .inl x1, .inl x2, .inl x3] σ := zM_eq (zat_X0_addOfOthers) rfl (Nat.le_of_ble_eq_true rfl)
set_option maxRecDepth 100000 in
theorem qX0_wipe_24_0 (d n : Nat) (σ : zS) : zexec zc_X0_wipe zu_X0_wipe (zM d) (n + 1) 0 [.inr (.inr 24)] σ = some (0, 0, wr (wr σ 24 5 0) 24 6 0) := ze rfl rfl rfl (zx rfl rfl (y2 rfl (zx rfl rfl (y0 (zx rfl rfl (y15 rfl (zx rfl rfl (y2 rfl (zx rfl rfl (y0 (zx rfl rfl (y15 rfl (zx rfl rfl y20)))))))))))))
set_option maxRecDepth 100000 in
theorem qX0_wipe_24 (d : Nat) (σ : zS) : zM (d + 1) mX0_wipe [.inr (.inr 24)] σ = zexec zc_X0_wipe zu_X0_wipe (zM d) (999999 + 1) 0 [.inr (.inr 24)] σ := zM_eq (zat_X0_wipe) rfl (Nat.le_of_ble_eq_true rfl)
set_option maxRecDepth 100000 in
theorem qX3_restart_32_0 (d n : Nat) (σ : zS) : zexec zc_X3_restart zu_X3_restart (zM d) (n + 1) 0 [.inr (.inr 32)] σ = zexec zc_X3_restart zu_X3_restart (zM d) n 2 [.inr (.inr 32), .inl 0] σ := ze rfl rfl rfl (zx rfl rfl (y0 (zx rfl rfl (y4 rfl (zxc rfl rfl rfl rfl)))))
set_option maxRecDepth 100000 in
theorem qX3_restart_32 (d : Nat) (σ : zS) : zM (d + 1) mX3_restart [.inr (.inr 32)] σ = zexec zc_X3_restart zu_X3_restart (zM d) (999999 + 1) 0 [.inr (.inr 32)] σ := zM_eq (zat_X3_restart) rfl (Nat.le_of_ble_eq_true rfl)
set_option maxRecDepth 100000 in
theorem qX3_restart_32_2 (d n : Nat) (σ : zS) (x1 : Int32) : zexec zc_X3_restart zu_X3_restart (zM d) (n + 1) 2 [.inr (.inr 32), .inl x1] σ = if x1 < 8 then (if x1 < 0 ∨ 8 ≤ x1.toNatClampNeg then (none) else (zexec zc_X3_restart zu_X3_restart (zM d) n 2 [.inr (.inr 32), .inl (x1 + 1)] (wr σ 33 x1.toNatClampNeg 0))) else (some (0, 0, wr (wr (wr (wr (wr σ 32 1 0) 32 2 0) 32 3 0) 32 4 0) 32 5 0)) := ze rfl rfl rfl (zx rfl rfl (y1 rfl (zx rfl rfl (y0 (zx rfl rfl (y36 (zx rfl rfl (y2 rfl (zx rfl rfl (y14 (v := .inr (.inr 33)) rfl (zx rfl rfl (y1 rfl (zx rfl rfl (y0 (zx rfl rfl (y17 rfl (zx rfl rfl (y6 rfl rfl (zx rfl rfl (y12 (zxc rfl rfl rfl rfl))))))))))))))) (zx rfl rfl (y2 rfl (zx rfl rfl (y0 (zx rfl rfl (y15 rfl (zx rfl rfl (y2 rfl (zx rfl rfl (y0 (zx rfl rfl (y15 rfl (zx rfl rfl (y2 rfl (zx rfl rfl (y0 (zx rfl rfl (y15 rfl (zx rfl rfl (y2 rfl (zx rfl rfl (y0 (zx rfl rfl (y15 rfl (zx rfl rfl (y2 rfl (zx rfl rfl (y0 (zx rfl rfl (y31l rfl (by decide) (zx rfl rfl y20)))))))))))))))))))))))))))))))))))))
set_option maxRecDepth 100000 in
theorem qX0_holds_24_0 (d n : Nat) (σ : zS) (x1 : Int32) : zexec zc_X0_holds zu_X0_holds (zM d) (n + 1) 0 [.inr (.inr 24), .inl x1] σ = if x1 < 0 then (some (1, 0, σ)) else (if x1 < (σ 24 5) then (some (1, 1, σ)) else (some (1, 0, σ))) := ze rfl rfl rfl (zx rfl rfl (y1 rfl (zx rfl rfl (y33 (zx rfl rfl (y0 (zx rfl rfl (y19l (by decide))))) (zx rfl rfl (y1 rfl (zx rfl rfl (y2 rfl (zx rfl rfl (y14 (v := .inl (σ 24 5)) rfl (zx rfl rfl (y36 (zx rfl rfl (y0 (zx rfl rfl (y12 (zx rfl rfl (y19l (by decide))))))) (zx rfl rfl (y0 (zx rfl rfl (y19l (by decide)))))))))))))))))
set_option maxRecDepth 100000 in
theorem qX0_holds_24 (d : Nat) (σ : zS) (x1 : Int32) : zM (d + 1) mX0_holds [.inr (.inr 24), .inl x1] σ = zexec zc_X0_holds zu_X0_holds (zM d) (999999 + 1) 0 [.inr (.inr 24), .inl x1] σ := zM_eq (zat_X0_holds) rfl (Nat.le_of_ble_eq_true rfl)
set_option maxRecDepth 100000 in
theorem qX0_kindAt_24_0 (d n : Nat) (σ : zS) (x1 : Int32) : zexec zc_X0_kindAt zu_X0_kindAt (zM d) (n + 1) 0 [.inr (.inr 24), .inl x1] σ = zbI (zM d mX0_holds [.inr (.inr 24), .inl x1] σ) (fun r1 s1 => if r1 = 0 then (some (1, (-1), s1)) else (if x1 < 0 ∨ 200 ≤ x1.toNatClampNeg then (none) else (some (1, s1 25 x1.toNatClampNeg, s1)))) := ze rfl rfl rfl (zx rfl rfl (y2 rfl (zx rfl rfl (y1 rfl (zx rfl rfl (y18 (r := []) rfl rfl rfl rfl rfl (fun r1 s1 => zx rfl rfl (y32 (zx rfl rfl (y0 (zx rfl rfl y19))) (zx rfl rfl (y2 rfl (zx rfl rfl (y14 (v := .inr (.inr 25)) rfl (zx rfl rfl (y1 rfl (zx rfl rfl (y16 (v := s1 25 x1.toNatClampNeg) rfl rfl (zx rfl rfl (y12 (zx rfl rfl y19)))))))))))))))))))
set_option maxRecDepth 100000 in
theorem qX0_kindAt_24 (d : Nat) (σ : zS) (x1 : Int32) : zM (d + 1) mX0_kindAt [.inr (.inr 24), .inl x1] σ = zexec zc_X0_kindAt zu_X0_kindAt (zM d) (999999 + 1) 0 [.inr (.inr 24), .inl x1] σ := zM_eq (zat_X0_kindAt) rfl (Nat.le_of_ble_eq_true rfl)
set_option maxRecDepth 100000 in
theorem qX0_refAt_24_0 (d n : Nat) (σ : zS) (x1 : Int32) : zexec zc_X0_refAt zu_X0_refAt (zM d) (n + 1) 0 [.inr (.inr 24), .inl x1] σ = zbI (zM d mX0_holds [.inr (.inr 24), .inl x1] σ) (fun r1 s1 => if r1 = 0 then (some (1, 0, s1)) else (if x1 < 0 ∨ 200 ≤ x1.toNatClampNeg then (none) else (some (1, s1 26 x1.toNatClampNeg, s1)))) := ze rfl rfl rfl (zx rfl rfl (y2 rfl (zx rfl rfl (y1 rfl (zx rfl rfl (y18 (r := []) rfl rfl rfl rfl rfl (fun r1 s1 => zx rfl rfl (y32 (zx rfl rfl (y0 (zx rfl rfl y19))) (zx rfl rfl (y2 rfl (zx rfl rfl (y14 (v := .inr (.inr 26)) rfl (zx rfl rfl (y1 rfl (zx rfl rfl (y16 (v := s1 26 x1.toNatClampNeg) rfl rfl (zx rfl rfl (y12 (zx rfl rfl y19)))))))))))))))))))
set_option maxRecDepth 100000 in
theorem qX0_refAt_24 (d : Nat) (σ : zS) (x1 : Int32) : zM (d + 1) mX0_refAt [.inr (.inr 24), .inl x1] σ = zexec zc_X0_refAt zu_X0_refAt (zM d) (999999 + 1) 0 [.inr (.inr 24), .inl x1] σ := zM_eq (zat_X0_refAt) rfl (Nat.le_of_ble_eq_true rfl)
set_option maxRecDepth 100000 in
theorem qX0_valueAt_24_0 (d n : Nat) (σ : zS) (x1 : Int32) : zexec zc_X0_valueAt zu_X0_valueAt (zM d) (n + 1) 0 [.inr (.inr 24), .inl x1] σ = zbI (zM d mX0_holds [.inr (.inr 24), .inl x1] σ) (fun r1 s1 => if r1 = 0 then (some (1, 0, s1)) else (if x1 < 0 ∨ 200 ≤ x1.toNatClampNeg then (none) else (some (1, s1 27 x1.toNatClampNeg, s1)))) := ze rfl rfl rfl (zx rfl rfl (y2 rfl (zx rfl rfl (y1 rfl (zx rfl rfl (y18 (r := []) rfl rfl rfl rfl rfl (fun r1 s1 => zx rfl rfl (y32 (zx rfl rfl (y0 (zx rfl rfl y19))) (zx rfl rfl (y2 rfl (zx rfl rfl (y14 (v := .inr (.inr 27)) rfl (zx rfl rfl (y1 rfl (zx rfl rfl (y16 (v := s1 27 x1.toNatClampNeg) rfl rfl (zx rfl rfl (y12 (zx rfl rfl y19)))))))))))))))))))
set_option maxRecDepth 100000 in
theorem qX0_valueAt_24 (d : Nat) (σ : zS) (x1 : Int32) : zM (d + 1) mX0_valueAt [.inr (.inr 24), .inl x1] σ = zexec zc_X0_valueAt zu_X0_valueAt (zM d) (999999 + 1) 0 [.inr (.inr 24), .inl x1] σ := zM_eq (zat_X0_valueAt) rfl (Nat.le_of_ble_eq_true rfl)
set_option maxRecDepth 100000 in
theorem qX3_get_32_0 (d n : Nat) (σ : zS) (x1 : Int32) : zexec zc_X3_get zu_X3_get (zM d) (n + 1) 0 [.inr (.inr 32), .inl x1] σ = if x1 < 0 then (some (1, 0, σ)) else (if x1 < 8 then (if x1 < 0 ∨ 8 ≤ x1.toNatClampNeg then (none) else (some (1, σ 33 x1.toNatClampNeg, σ))) else (some (1, 0, σ))) := ze rfl rfl rfl (zx rfl rfl (y1 rfl (zx rfl rfl (y33 (zx rfl rfl (y0 (zx rfl rfl y19))) (zx rfl rfl (y1 rfl (zx rfl rfl (y0 (zx rfl rfl (y36 (zx rfl rfl (y2 rfl (zx rfl rfl (y14 (v := .inr (.inr 33)) rfl (zx rfl rfl (y1 rfl (zx rfl rfl (y16 (v := σ 33 x1.toNatClampNeg) rfl rfl (zx rfl rfl (y12 (zx rfl rfl y19))))))))))) (zx rfl rfl (y0 (zx rfl rfl y19)))))))))))))
set_option maxRecDepth 100000 in
theorem qX3_get_32 (d : Nat) (σ : zS) (x1 : Int32) : zM (d + 1) mX3_get [.inr (.inr 32), .inl x1] σ = zexec zc_X3_get zu_X3_get (zM d) (999999 + 1) 0 [.inr (.inr 32), .inl x1] σ := zM_eq (zat_X3_get) rfl (Nat.le_of_ble_eq_true rfl)
set_option maxRecDepth 100000 in
theorem qX0_count_24_0 (d n : Nat) (σ : zS) (x1 x2 : Int32) : zexec zc_X0_count zu_X0_count (zM d) (n + 1) 0 [.inr (.inr 24), .inl x1, .inl x2] σ = zexec zc_X0_count zu_X0_count (zM d) n 5 [.inr (.inr 24), .inl x1, .inl x2, .inl 0, .inl 0] σ := ze rfl rfl rfl (zx rfl rfl (y0 (zx rfl rfl (y4 rfl (zx rfl rfl (y0 (zx rfl rfl (y4 rfl (zxc rfl rfl rfl rfl)))))))))
set_option maxRecDepth 100000 in
theorem qX0_count_24 (d : Nat) (σ : zS) (x1 x2 : Int32) : zM (d + 1) mX0_count [.inr (.inr 24), .inl x1, .inl x2] σ = zexec zc_X0_count zu_X0_count (zM d) (999999 + 1) 0 [.inr (.inr 24), .inl x1, .inl x2] σ := zM_eq (zat_X0_count) rfl (Nat.le_of_ble_eq_true rfl)
set_option maxRecDepth 100000 in
theorem qX0_count_24_5 (d n : Nat) (σ : zS) (x1 x2 x3 x4 : Int32) : zexec zc_X0_count zu_X0_count (zM d) (n + 1) 5 [.inr (.inr 24), .inl x1, .inl x2, .inl x3, .inl x4] σ = if x4 < (σ 24 5) then (zbI (zM d mX0_kindAt [.inr (.inr 24), .inl x4] σ) (fun r1 s1 => if r1 < x1 then (zexec zc_X0_count zu_X0_count (zM d) n 5 [.inr (.inr 24), .inl x1, .inl x2, .inl x3, .inl (x4 + 1)] s1) else (zbI (zM d mX0_kindAt [.inr (.inr 24), .inl x4] s1) (fun r2 s2 => if x2 < r2 then (zexec zc_X0_count zu_X0_count (zM d) n 5 [.inr (.inr 24), .inl x1, .inl x2, .inl x3, .inl (x4 + 1)] s2) else (zexec zc_X0_count zu_X0_count (zM d) n 5 [.inr (.inr 24), .inl x1, .inl x2, .inl (x3 + 1), .inl (x4 + 1)] s2))))) else (some (1, x3, σ)) := ze rfl rfl rfl (zx rfl rfl (y1 rfl (zx rfl rfl (y2 rfl (zx rfl rfl (y14 (v := .inl (σ 24 5)) rfl (zx rfl rfl (y36 (zx rfl rfl (y2 rfl (zx rfl rfl (y1 rfl (zx rfl rfl (y18 (r := []) rfl rfl rfl rfl rfl (fun r1 s1 => zx rfl rfl (y1 rfl (zx rfl rfl (y36 (zx rfl rfl (y6 rfl rfl (zx rfl rfl (y12 (zxc rfl rfl rfl rfl))))) (zx rfl rfl (y2 rfl (zx rfl rfl (y1 rfl (zx rfl rfl (y18 (r := []) rfl rfl rfl rfl rfl (fun r2 s2 => zx rfl rfl (y1 rfl (zx rfl rfl (y37 (zx rfl rfl (y6 rfl rfl (zx rfl rfl (y12 (zxc rfl rfl rfl rfl))))) (zx rfl rfl (y6 rfl rfl (zx rfl rfl (y6 rfl rfl (zx rfl rfl (y12 (zxc rfl rfl rfl rfl))))))))))))))))))))))))))) (zx rfl rfl (y1 rfl (zx rfl rfl y19)))))))))))
set_option maxRecDepth 100000 in
theorem qX5_byteOf_0 (d n : Nat) (σ : zS) (x2 : Int32) (x0 : Int64) : zexec zc_X5_byteOf zu_X5_byteOf (zM d) (n + 1) 0 [.inr (.inl x0), .inl x2] σ = some (1, (((x0.toUInt64 >>> ((8 * x2).toInt64.toUInt64 &&& Int64.toUInt64 63)).toInt64).toInt32) &&& 255, σ) := ze rfl rfl rfl (zx rfl rfl (y3 rfl (zx rfl rfl (y0 (zx rfl rfl (y1 rfl (zx rfl rfl (y7 (v := 8 * x2) rfl (zx rfl rfl (y91 (zx rfl rfl (y93 (zx rfl rfl (y0 (zx rfl rfl (y7 (v := (((x0.toUInt64 >>> ((8 * x2).toInt64.toUInt64 &&& Int64.toUInt64 63)).toInt64).toInt32) &&& 255) rfl (zx rfl rfl y19)))))))))))))))))
set_option maxRecDepth 100000 in
theorem qX5_byteOf (d : Nat) (σ : zS) (x2 : Int32) (x0 : Int64) : zM (d + 1) mX5_byteOf [.inr (.inl x0), .inl x2] σ = zexec zc_X5_byteOf zu_X5_byteOf (zM d) (999999 + 1) 0 [.inr (.inl x0), .inl x2] σ := zM_eq (zat_X5_byteOf) rfl (Nat.le_of_ble_eq_true rfl)
set_option maxRecDepth 100000 in
theorem qX5_length_1_0 (d n : Nat) (σ : zS) : zexec zc_X5_length zu_X5_length (zM d) (n + 1) 0 [.inr (.inr 1)] σ = some (1, σ 1 1, σ) := ze rfl rfl rfl (zx rfl rfl (y2 rfl (zx rfl rfl (y14 (v := .inl (σ 1 1)) rfl (zx rfl rfl y19)))))
set_option maxRecDepth 100000 in
theorem qX5_length_1 (d : Nat) (σ : zS) : zM (d + 1) mX5_length [.inr (.inr 1)] σ = zexec zc_X5_length zu_X5_length (zM d) (999999 + 1) 0 [.inr (.inr 1)] σ := zM_eq (zat_X5_length) rfl (Nat.le_of_ble_eq_true rfl)
set_option maxRecDepth 100000 in
theorem qX6_isStart_1_0 (d n : Nat) (σ : zS) (x1 : Int32) : zexec zc_X6_isStart zu_X6_isStart (zM d) (n + 1) 0 [.inr (.inr 1), .inl x1] σ = zbI (zM d mX5_at [.inr (.inr 1), .inl x1] σ) (fun r1 s1 => zbI (zM d mX5_at [.inr (.inr 1), .inl (x1 - 1)] s1) (fun r2 s2 => if r1 = 32 then (some (1, 0, s2)) else (zbI (zM d mX6_isLetter [.inl r1] s2) (fun r3 s3 => if r3 = 0 then (zbI (zM d mX6_isDigit [.inl r1] s3) (fun r4 s4 => if r4 = 0 then (some (1, 1, s4)) else (zbI (zM d mX6_isDigit [.inl r2] s4) (fun r5 s5 => if r5 = 0 then (some (1, 1, s5)) else (some (1, 0, s5)))))) else (zbI (zM d mX6_isLetter [.inl r2] s3) (fun r6 s6 => if r6 = 0 then (zbI (zM d mX6_isDigit [.inl r1] s6) (fun r7 s7 => if r7 = 0 then (some (1, 1, s7)) else (zbI (zM d mX6_isDigit [.inl r2] s7) (fun r8 s8 => if r8 = 0 then (some (1, 1, s8)) else (some (1, 0, s8)))))) else (some (1, 0, s6)))))))) := ze rfl rfl rfl (zx rfl rfl (y2 rfl (zx rfl rfl (y1 rfl (zx rfl rfl (y18 (r := []) rfl rfl rfl rfl rfl (fun r1 s1 => zx rfl rfl (y4 rfl (zx rfl rfl (y2 rfl (zx rfl rfl (y1 rfl (zx rfl rfl (y0 (zx rfl rfl (y7 (v := x1 - 1) rfl (zx rfl rfl (y18 (r := []) rfl rfl rfl rfl rfl (fun r2 s2 => zx rfl rfl (y4 rfl (zx rfl rfl (y1 rfl (zx rfl rfl (y0 (zx rfl rfl (y35 (zx rfl rfl (y0 (zx rfl rfl (y19l (by decide))))) (zx rfl rfl (y1 rfl (zx rfl rfl (y18 (r := []) rfl rfl rfl rfl rfl (fun r3 s3 => zx rfl rfl (y32 (zx rfl rfl (y1 rfl (zx rfl rfl (y18 (r := []) rfl rfl rfl rfl rfl (fun r4 s4 => zx rfl rfl (y32 (zx rfl rfl (y0 (zx rfl rfl (y12 (zx rfl rfl (y19l (by decide))))))) (zx rfl rfl (y1 rfl (zx rfl rfl (y18 (r := []) rfl rfl rfl rfl rfl (fun r5 s5 => zx rfl rfl (y32 (zx rfl rfl (y0 (zx rfl rfl (y12 (zx rfl rfl (y19l (by decide))))))) (zx rfl rfl (y0 (zx rfl rfl (y19l (by decide))))))))))))))))) (zx rfl rfl (y1 rfl (zx rfl rfl (y18 (r := []) rfl rfl rfl rfl rfl (fun r6 s6 => zx rfl rfl (y32 (zx rfl rfl (y1 rfl (zx rfl rfl (y18 (r := []) rfl rfl rfl rfl rfl (fun r7 s7 => zx rfl rfl (y32 (zx rfl rfl (y0 (zx rfl rfl (y12 (zx rfl rfl (y19l (by decide))))))) (zx rfl rfl (y1 rfl (zx rfl rfl (y18 (r := []) rfl rfl rfl rfl rfl (fun r8 s8 => zx rfl rfl (y32 (zx rfl rfl (y0 (zx rfl rfl (y12 (zx rfl rfl (y19l (by decide))))))) (zx rfl rfl (y0 (zx rfl rfl (y19l (by decide))))))))))))))))) (zx rfl rfl (y0 (zx rfl rfl (y19l (by decide)))))))))))))))))))))))))))))))))))))))))))
set_option maxRecDepth 100000 in
theorem qX6_isStart_1 (d : Nat) (σ : zS) (x1 : Int32) : zM (d + 1) mX6_isStart [.inr (.inr 1), .inl x1] σ = zexec zc_X6_isStart zu_X6_isStart (zM d) (999999 + 1) 0 [.inr (.inr 1), .inl x1] σ := zM_eq (zat_X6_isStart) rfl (Nat.le_of_ble_eq_true rfl)
set_option maxRecDepth 100000 in
theorem qX6_addFrom_3_1_0 (d n : Nat) (σ : zS) (x2 : Int32) : zexec zc_X6_addFrom zu_X6_addFrom (zM d) (n + 1) 0 [.inr (.inr 3), .inr (.inr 1), .inl x2] σ = zbI (zM d mX5_at [.inr (.inr 1), .inl x2] σ) (fun r1 s1 => zbI (zM d mX6_isLetter [.inl r1] s1) (fun r2 s2 => if r2 = 0 then (zbI (zM d mX6_isDigit [.inl r1] s2) (fun r3 s3 => if r3 = 0 then (if ((r1.toUInt32 % 65536).toInt32) < 0 ∨ 256 ≤ ((r1.toUInt32 % 65536).toInt32) then (none) else (if (zixF ((r1.toUInt32 % 65536).toInt32) (zstr 9) 0) < 0 then (zbV (zM d mX6_add [.inr (.inr 3), .inl 1, .inl x2, .inl 0] s3) (fun s4 => some (0, 0, s4))) else (zbV (zM d mX6_add [.inr (.inr 3), .inl r1, .inl x2, .inl 0] s3) (fun s5 => some (0, 0, s5))))) else (zbV (zM d mX6_addNumber [.inr (.inr 3), .inr (.inr 1), .inl x2] s3) (fun s6 => some (0, 0, s6))))) else (zbV (zM d mX6_addName [.inr (.inr 3), .inr (.inr 1), .inl x2] s2) (fun s7 => some (0, 0, s7))))) := ze rfl rfl rfl (zx rfl rfl (y2 rfl (zx rfl rfl (y1 rfl (zx rfl rfl (y18 (r := []) rfl rfl rfl rfl rfl (fun r1 s1 => zx rfl rfl (y4 rfl (zx rfl rfl (y1 rfl (zx rfl rfl (y18 (r := []) rfl rfl rfl rfl rfl (fun r2 s2 => zx rfl rfl (y32 (zx rfl rfl (y1 rfl (zx rfl rfl (y18 (r := []) rfl rfl rfl rfl rfl (fun r3 s3 => zx rfl rfl (y32 (zx rfl rfl (y2 rfl (zx rfl rfl (y27 (by decide) (zx rfl rfl (y1 rfl (zx rfl rfl (y8 (v := (r1.toUInt32 % 65536).toInt32) rfl (zx rfl rfl (y282 (v := zixF ((r1.toUInt32 % 65536).toInt32) (zstr 9) 0) rfl rfl rfl rfl (zx rfl rfl (y33 (zx rfl rfl (y0 (zx rfl rfl (y1 rfl (zx rfl rfl (y0 (zx rfl rfl (y30 (r := []) rfl rfl rfl rfl rfl (fun s4 => zx rfl rfl y20))))))))) (zx rfl rfl (y1 rfl (zx rfl rfl (y12 (zx rfl rfl (y1 rfl (zx rfl rfl (y0 (zx rfl rfl (y30 (r := []) rfl rfl rfl rfl rfl (fun s5 => zx rfl rfl y20))))))))))))))))))))))) (zx rfl rfl (y2 rfl (zx rfl rfl (y2 rfl (zx rfl rfl (y1 rfl (zx rfl rfl (y30 (r := []) rfl rfl rfl rfl rfl (fun s6 => zx rfl rfl (y12 (zx rfl rfl y20))))))))))))))))) (zx rfl rfl (y2 rfl (zx rfl rfl (y2 rfl (zx rfl rfl (y1 rfl (zx rfl rfl (y30 (r := []) rfl rfl rfl rfl rfl (fun s7 => zx rfl rfl (y12 (zx rfl rfl y20)))))))))))))))))))))))))
set_option maxRecDepth 100000 in
theorem qX6_addFrom_3_1 (d : Nat) (σ : zS) (x2 : Int32) : zM (d + 1) mX6_addFrom [.inr (.inr 3), .inr (.inr 1), .inl x2] σ = zexec zc_X6_addFrom zu_X6_addFrom (zM d) (999999 + 1) 0 [.inr (.inr 3), .inr (.inr 1), .inl x2] σ := zM_eq (zat_X6_addFrom) rfl (Nat.le_of_ble_eq_true rfl)
set_option maxRecDepth 100000 in
theorem qX6_add_3_0 (d n : Nat) (σ : zS) (x1 x2 x3 : Int32) : zexec zc_X6_add zu_X6_add (zM d) (n + 1) 0 [.inr (.inr 3), .inl x1, .inl x2, .inl x3] σ = if (σ 3 3) < 401 then (if (σ 3 3) < 0 ∨ 401 ≤ (σ 3 3).toNatClampNeg then (none) else (if (σ 3 3) < 0 ∨ 401 ≤ (σ 3 3).toNatClampNeg then (none) else (if (σ 3 3) < 0 ∨ 401 ≤ (σ 3 3).toNatClampNeg then (none) else (some (0, 0, wr (wr (wr (wr σ 4 ((σ 3 3).toNatClampNeg) x1) 5 ((σ 3 3).toNatClampNeg) x2) 6 ((σ 3 3).toNatClampNeg) x3) 3 3 ((σ 3 3) + 1)))))) else (some (0, 0, σ)) := ze rfl rfl rfl (zx rfl rfl (y2 rfl (zx rfl rfl (y14 (v := .inl (σ 3 3)) rfl (zx rfl rfl (y2 rfl (zx rfl rfl (y14 (v := .inr (.inr 4)) rfl (zx rfl rfl (y24 rfl (zx rfl rfl (y36 (zx rfl rfl (y2 rfl (zx rfl rfl (y14 (v := .inr (.inr 4)) rfl (zx rfl rfl (y2 rfl (zx rfl rfl (y14 (v := .inl (σ 3 3)) rfl (zx rfl rfl (y1 rfl (zx rfl rfl (y17 rfl (zx rfl rfl (y2 rfl (zx rfl rfl (y14 (v := .inr (.inr 5)) rfl (zx rfl rfl (y2 rfl (zx rfl rfl (y14 (v := .inl (σ 3 3)) rfl (zx rfl rfl (y1 rfl (zx rfl rfl (y17 rfl (zx rfl rfl (y2 rfl (zx rfl rfl (y14 (v := .inr (.inr 6)) rfl (zx rfl rfl (y2 rfl (zx rfl rfl (y14 (v := .inl (σ 3 3)) rfl (zx rfl rfl (y1 rfl (zx rfl rfl (y17 rfl (zx rfl rfl (y2 rfl (zx rfl rfl (y21 rfl (zx rfl rfl (y14 (v := .inl (σ 3 3)) rfl (zx rfl rfl (y0 (zx rfl rfl (y7 (v := (σ 3 3) + 1) rfl (zx rfl rfl (y15 rfl (zx rfl rfl y20))))))))))))))))))))))))))))))))))))))))))))))))) (zx rfl rfl y20)))))))))))))
set_option maxRecDepth 100000 in
theorem qX6_add_3 (d : Nat) (σ : zS) (x1 x2 x3 : Int32) : zM (d + 1) mX6_add [.inr (.inr 3), .inl x1, .inl x2, .inl x3] σ = zexec zc_X6_add zu_X6_add (zM d) (999999 + 1) 0 [.inr (.inr 3), .inl x1, .inl x2, .inl x3] σ := zM_eq (zat_X6_add) rfl (Nat.le_of_ble_eq_true rfl)
set_option maxRecDepth 100000 in
theorem qX1_wipe_7_0 (d n : Nat) (σ : zS) : zexec zc_X1_wipe zu_X1_wipe (zM d) (n + 1) 0 [.inr (.inr 7)] σ = some (0, 0, wr (wr (wr σ 7 7 0) 7 8 0) 7 9 0) := ze rfl rfl rfl (zx rfl rfl (y2 rfl (zx rfl rfl (y0 (zx rfl rfl (y15 rfl (zx rfl rfl (y2 rfl (zx rfl rfl (y0 (zx rfl rfl (y15 rfl (zx rfl rfl (y2 rfl (zx rfl rfl (y0 (zx rfl rfl (y15 rfl (zx rfl rfl y20)))))))))))))))))))
set_option maxRecDepth 100000 in
theorem qX1_wipe_7 (d : Nat) (σ : zS) : zM (d + 1) mX1_wipe [.inr (.inr 7)] σ = zexec zc_X1_wipe zu_X1_wipe (zM d) (999999 + 1) 0 [.inr (.inr 7)] σ := zM_eq (zat_X1_wipe) rfl (Nat.le_of_ble_eq_true rfl)
set_option maxRecDepth 100000 in
theorem qX2_readStatements_23_0 (d n : Nat) (σ : zS) (x1 : Int32) : zexec zc_X2_readStatements zu_X2_readStatements (zM d) (n + 1) 0 [.inr (.inr 23), .inl x1] σ = zexec zc_X2_readStatements zu_X2_readStatements (zM d) n 2 [.inr (.inr 23), .inl x1, .inl 0] σ := ze rfl rfl rfl (zx rfl rfl (y0 (zx rfl rfl (y4 rfl (zxc rfl rfl rfl rfl)))))
set_option maxRecDepth 100000 in
theorem qX2_readStatements_23 (d : Nat) (σ : zS) (x1 : Int32) : zM (d + 1) mX2_readStatements [.inr (.inr 23), .inl x1] σ = zexec zc_X2_readStatements zu_X2_readStatements (zM d) (999999 + 1) 0 [.inr (.inr 23), .inl x1] σ := zM_eq (zat_X2_readStatements) rfl (Nat.le_of_ble_eq_true rfl)
set_option maxRecDepth 100000 in
theorem qX2_readStatements_23_2 (d n : Nat) (σ : zS) (x1 x2 : Int32) : zexec zc_X2_readStatements zu_X2_readStatements (zM d) (n + 1) 2 [.inr (.inr 23), .inl x1, .inl x2] σ = if x2 < 400 then (zbI (zM d mX6_kind [.inr (.inr 3)] σ) (fun r1 s1 => zbI (zM d mX2_isBlockEnd [.inl r1] s1) (fun r2 s2 => if r2 = 0 then (zbI (zM d mX2_readStatement [.inr (.inr 23), .inl x1] s2) (fun r3 s3 => if r3 = 0 then (some (1, 0, s3)) else (zexec zc_X2_readStatements zu_X2_readStatements (zM d) n 2 [.inr (.inr 23), .inl x1, .inl (x2 + 1)] s3))) else (some (1, 1, s2))))) else (some (1, 1, σ)) := ze rfl rfl rfl (zx rfl rfl (y1 rfl (zx rfl rfl (y0 (zx rfl rfl (y36 (zx rfl rfl (y2 rfl (zx rfl rfl (y14 (v := .inr (.inr 3)) rfl (zx rfl rfl (y18 (r := []) rfl rfl rfl rfl rfl (fun r1 s1 => zx rfl rfl (y18 (r := []) rfl rfl rfl rfl rfl (fun r2 s2 => zx rfl rfl (y32 (zx rfl rfl (y2 rfl (zx rfl rfl (y1 rfl (zx rfl rfl (y18 (r := []) rfl rfl rfl rfl rfl (fun r3 s3 => zx rfl rfl (y32 (zx rfl rfl (y0 (zx rfl rfl (y19l (by decide))))) (zx rfl rfl (y6 rfl rfl (zx rfl rfl (y12 (zxc rfl rfl rfl rfl))))))))))))) (zx rfl rfl (y0 (zx rfl rfl (y19l (by decide))))))))))))))) (zx rfl rfl (y0 (zx rfl rfl (y19l (by decide)))))))))))
set_option maxRecDepth 100000 in
theorem qX6_place_3_0 (d n : Nat) (σ : zS) : zexec zc_X6_place zu_X6_place (zM d) (n + 1) 0 [.inr (.inr 3)] σ = if (σ 3 4) < (σ 3 3) then (if (σ 3 4) < 0 ∨ 401 ≤ (σ 3 4).toNatClampNeg then (none) else (some (1, σ 5 ((σ 3 4).toNatClampNeg), σ))) else (some (1, 0, σ)) := ze rfl rfl rfl (zx rfl rfl (y2 rfl (zx rfl rfl (y14 (v := .inl (σ 3 4)) rfl (zx rfl rfl (y2 rfl (zx rfl rfl (y14 (v := .inl (σ 3 3)) rfl (zx rfl rfl (y36 (zx rfl rfl (y2 rfl (zx rfl rfl (y14 (v := .inr (.inr 5)) rfl (zx rfl rfl (y2 rfl (zx rfl rfl (y14 (v := .inl (σ 3 4)) rfl (zx rfl rfl (y16 (v := σ 5 ((σ 3 4).toNatClampNeg)) rfl rfl (zx rfl rfl (y12 (zx rfl rfl y19))))))))))))) (zx rfl rfl (y0 (zx rfl rfl y19)))))))))))))
set_option maxRecDepth 100000 in
theorem qX6_place_3 (d : Nat) (σ : zS) : zM (d + 1) mX6_place [.inr (.inr 3)] σ = zexec zc_X6_place zu_X6_place (zM d) (999999 + 1) 0 [.inr (.inr 3)] σ := zM_eq (zat_X6_place) rfl (Nat.le_of_ble_eq_true rfl)
set_option maxRecDepth 100000 in
theorem qX6_kind_3_0 (d n : Nat) (σ : zS) : zexec zc_X6_kind zu_X6_kind (zM d) (n + 1) 0 [.inr (.inr 3)] σ = if (σ 3 4) < (σ 3 3) then (if (σ 3 4) < 0 ∨ 401 ≤ (σ 3 4).toNatClampNeg then (none) else (some (1, σ 4 ((σ 3 4).toNatClampNeg), σ))) else (some (1, 0, σ)) := ze rfl rfl rfl (zx rfl rfl (y2 rfl (zx rfl rfl (y14 (v := .inl (σ 3 4)) rfl (zx rfl rfl (y2 rfl (zx rfl rfl (y14 (v := .inl (σ 3 3)) rfl (zx rfl rfl (y36 (zx rfl rfl (y2 rfl (zx rfl rfl (y14 (v := .inr (.inr 4)) rfl (zx rfl rfl (y2 rfl (zx rfl rfl (y14 (v := .inl (σ 3 4)) rfl (zx rfl rfl (y16 (v := σ 4 ((σ 3 4).toNatClampNeg)) rfl rfl (zx rfl rfl (y12 (zx rfl rfl y19))))))))))))) (zx rfl rfl (y0 (zx rfl rfl y19)))))))))))))
set_option maxRecDepth 100000 in
theorem qX6_kind_3 (d : Nat) (σ : zS) : zM (d + 1) mX6_kind [.inr (.inr 3)] σ = zexec zc_X6_kind zu_X6_kind (zM d) (999999 + 1) 0 [.inr (.inr 3)] σ := zM_eq (zat_X6_kind) rfl (Nat.le_of_ble_eq_true rfl)
set_option maxRecDepth 100000 in
theorem qX0_decisionEnd_24_0 (d n : Nat) (σ : zS) (x1 : Int32) : zexec zc_X0_decisionEnd zu_X0_decisionEnd (zM d) (n + 1) 0 [.inr (.inr 24), .inl x1] σ = zexec zc_X0_decisionEnd zu_X0_decisionEnd (zM d) n 4 [.inr (.inr 24), .inl (x1 + 1)] σ := ze rfl rfl rfl (zx rfl rfl (y1 rfl (zx rfl rfl (y0 (zx rfl rfl (y7 (v := x1 + 1) rfl (zx rfl rfl (y4 rfl (zxc rfl rfl rfl rfl)))))))))
set_option maxRecDepth 100000 in
theorem qX0_decisionEnd_24 (d : Nat) (σ : zS) (x1 : Int32) : zM (d + 1) mX0_decisionEnd [.inr (.inr 24), .inl x1] σ = zexec zc_X0_decisionEnd zu_X0_decisionEnd (zM d) (999999 + 1) 0 [.inr (.inr 24), .inl x1] σ := zM_eq (zat_X0_decisionEnd) rfl (Nat.le_of_ble_eq_true rfl)
set_option maxRecDepth 100000 in
theorem qX0_decisionEnd_24_4 (d n : Nat) (σ : zS) (x2 : Int32) : zexec zc_X0_decisionEnd zu_X0_decisionEnd (zM d) (n + 1) 4 [.inr (.inr 24), .inl x2] σ = if x2 < (σ 24 5) then (zbI (zM d mX0_kindAt [.inr (.inr 24), .inl x2] σ) (fun r1 s1 => if r1 < 1 then (some (1, x2, s1)) else (zbI (zM d mX0_kindAt [.inr (.inr 24), .inl x2] s1) (fun r2 s2 => if 4 < r2 then (some (1, x2, s2)) else (zexec zc_X0_decisionEnd zu_X0_decisionEnd (zM d) n 4 [.inr (.inr 24), .inl (x2 + 1)] s2))))) else (some (1, x2, σ)) := ze rfl rfl rfl (zx rfl rfl (y1 rfl (zx rfl rfl (y2 rfl (zx rfl rfl (y14 (v := .inl (σ 24 5)) rfl (zx rfl rfl (y36 (zx rfl rfl (y2 rfl (zx rfl rfl (y1 rfl (zx rfl rfl (y18 (r := []) rfl rfl rfl rfl rfl (fun r1 s1 => zx rfl rfl (y0 (zx rfl rfl (y36 (zx rfl rfl (y1 rfl (zx rfl rfl y19))) (zx rfl rfl (y2 rfl (zx rfl rfl (y1 rfl (zx rfl rfl (y18 (r := []) rfl rfl rfl rfl rfl (fun r2 s2 => zx rfl rfl (y0 (zx rfl rfl (y37 (zx rfl rfl (y1 rfl (zx rfl rfl y19))) (zx rfl rfl (y6 rfl rfl (zx rfl rfl (y12 (zxc rfl rfl rfl rfl))))))))))))))))))))))))) (zx rfl rfl (y1 rfl (zx rfl rfl y19)))))))))))
set_option maxRecDepth 100000 in
theorem qX4_runDecision_34_0 (d n : Nat) (σ : zS) (x1 x2 x3 : Int32) : zexec zc_X4_runDecision zu_X4_runDecision (zM d) (n + 1) 0 [.inr (.inr 34), .inl x1, .inl x2, .inl x3] σ = if x3 = 0 ∨ x3 = 1 then (zexec zc_X4_runDecision zu_X4_runDecision (zM d) n 43 [.inr (.inr 34), .inl x2, .inl x3, .inl 0] (wr (wr (wr (wr (wr (wr (wr σ 34 6 x1) 34 7 (x1 + 1)) 34 8 x2) 34 9 x3) 34 10 0) 34 11 0) 30 3 0)) else (none) := ze rfl rfl rfl (zx rfl rfl (y2 rfl (zx rfl rfl (y1 rfl (zx rfl rfl (y15 rfl (zx rfl rfl (y2 rfl (zx rfl rfl (y1 rfl (zx rfl rfl (y0 (zx rfl rfl (y7 (v := x1 + 1) rfl (zx rfl rfl (y15 rfl (zx rfl rfl (y2 rfl (zx rfl rfl (y1 rfl (zx rfl rfl (y15 rfl (zx rfl rfl (y2 rfl (zx rfl rfl (y1 rfl (zx rfl rfl (y31 rfl (zx rfl rfl (y2 rfl (zx rfl rfl (y0 (zx rfl rfl (y31l rfl (by decide) (zx rfl rfl (y2 rfl (zx rfl rfl (y0 (zx rfl rfl (y15 rfl (zx rfl rfl (y2 rfl (zx rfl rfl (y14 (v := .inr (.inr 30)) rfl (zx rfl rfl (y0 (zx rfl rfl (y15 rfl (zx rfl rfl (y0 (zx rfl rfl (y4 rfl (zxc rfl rfl rfl rfl)))))))))))))))))))))))))))))))))))))))))))))))))))))
set_option maxRecDepth 100000 in
theorem qX4_runDecision_34 (d : Nat) (σ : zS) (x1 x2 x3 : Int32) : zM (d + 1) mX4_runDecision [.inr (.inr 34), .inl x1, .inl x2, .inl x3] σ = zexec zc_X4_runDecision zu_X4_runDecision (zM d) (999999 + 1) 0 [.inr (.inr 34), .inl x1, .inl x2, .inl x3] σ := zM_eq (zat_X4_runDecision) rfl (Nat.le_of_ble_eq_true rfl)
set_option maxRecDepth 100000 in
theorem qX4_runDecision_34_43 (d n : Nat) (σ : zS) (x2 x3 x4 : Int32) : zexec zc_X4_runDecision zu_X4_runDecision (zM d) (n + 1) 43 [.inr (.inr 34), .inl x2, .inl x3, .inl x4] σ = if x4 < 12012 then (if (σ 34 11) = 0 then (if (σ 34 10) = 0 then (if (σ 30 5) = 0 then (zbI (zM d mX1_sortAt [.inr (.inr 15), .inl (σ 30 1)] σ) (fun r1 s1 => zbI (zM d mX1_firstAt [.inr (.inr 15), .inl (s1 30 1)] s1) (fun r2 s2 => zbV (zM d mX4_turn [.inr (.inr 34), .inl r1, .inl r2] s2) (fun s3 => zexec zc_X4_runDecision zu_X4_runDecision (zM d) n 43 [.inr (.inr 34), .inl x2, .inl x3, .inl (x4 + 1)] s3)))) else (if (σ 34 11) = 0 then (if x3 = 0 then (if (σ 34 7) < x2 then (zbV (zM d mX4_differ [.inr (.inr 34)] σ) (fun s4 => some (0, 0, s4))) else (some (0, 0, σ))) else (some (0, 0, σ))) else (some (0, 0, σ)))) else (if (σ 34 11) = 0 then (if x3 = 0 then (if (σ 34 7) < x2 then (zbV (zM d mX4_differ [.inr (.inr 34)] σ) (fun s5 => some (0, 0, s5))) else (some (0, 0, σ))) else (some (0, 0, σ))) else (some (0, 0, σ)))) else (if (σ 34 11) = 0 then (if x3 = 0 then (if (σ 34 7) < x2 then (zbV (zM d mX4_differ [.inr (.inr 34)] σ) (fun s6 => some (0, 0, s6))) else (some (0, 0, σ))) else (some (0, 0, σ))) else (some (0, 0, σ)))) else (if (σ 34 11) = 0 then (if x3 = 0 then (if (σ 34 7) < x2 then (zbV (zM d mX4_differ [.inr (.inr 34)] σ) (fun s7 => some (0, 0, s7))) else (some (0, 0, σ))) else (some (0, 0, σ))) else (some (0, 0, σ))) := ze rfl rfl rfl (zx rfl rfl (y1 rfl (zx rfl rfl (y0 (zx rfl rfl (y36 (zx rfl rfl (y2 rfl (zx rfl rfl (y14 (v := .inl (σ 34 11)) rfl (zx rfl rfl (y32 (zx rfl rfl (y2 rfl (zx rfl rfl (y14 (v := .inl (σ 34 10)) rfl (zx rfl rfl (y32 (zx rfl rfl (y2 rfl (zx rfl rfl (y14 (v := .inr (.inr 30)) rfl (zx rfl rfl (y14 (v := .inl (σ 30 5)) rfl (zx rfl rfl (y32 (zx rfl rfl (y2 rfl (zx rfl rfl (y2 rfl (zx rfl rfl (y14 (v := .inr (.inr 15)) rfl (zx rfl rfl (y2 rfl (zx rfl rfl (y14 (v := .inr (.inr 30)) rfl (zx rfl rfl (y14 (v := .inl (σ 30 1)) rfl (zx rfl rfl (y18 (r := [.inr (.inr 34)]) rfl rfl rfl rfl rfl (fun r1 s1 => zx rfl rfl (y2 rfl (zx rfl rfl (y14 (v := .inr (.inr 15)) rfl (zx rfl rfl (y2 rfl (zx rfl rfl (y14 (v := .inr (.inr 30)) rfl (zx rfl rfl (y14 (v := .inl (s1 30 1)) rfl (zx rfl rfl (y18 (r := [.inl r1, .inr (.inr 34)]) rfl rfl rfl rfl rfl (fun r2 s2 => zx rfl rfl (y30 (r := []) rfl rfl rfl rfl rfl (fun s3 => zx rfl rfl (y6 rfl rfl (zx rfl rfl (y12 (zxc rfl rfl rfl rfl))))))))))))))))))))))))))))))))) (zx rfl rfl (y2 rfl (zx rfl rfl (y14 (v := .inl (σ 34 11)) rfl (zx rfl rfl (y32 (zx rfl rfl (y1 rfl (zx rfl rfl (y32 (zx rfl rfl (y2 rfl (zx rfl rfl (y14 (v := .inl (σ 34 7)) rfl (zx rfl rfl (y1 rfl (zx rfl rfl (y36 (zx rfl rfl (y2 rfl (zx rfl rfl (y30 (r := []) rfl rfl rfl rfl rfl (fun s4 => zx rfl rfl y20))))) (zx rfl rfl y20))))))))) (zx rfl rfl y20))))) (zx rfl rfl y20))))))))))))))) (zx rfl rfl (y2 rfl (zx rfl rfl (y14 (v := .inl (σ 34 11)) rfl (zx rfl rfl (y32 (zx rfl rfl (y1 rfl (zx rfl rfl (y32 (zx rfl rfl (y2 rfl (zx rfl rfl (y14 (v := .inl (σ 34 7)) rfl (zx rfl rfl (y1 rfl (zx rfl rfl (y36 (zx rfl rfl (y2 rfl (zx rfl rfl (y30 (r := []) rfl rfl rfl rfl rfl (fun s5 => zx rfl rfl y20))))) (zx rfl rfl y20))))))))) (zx rfl rfl y20))))) (zx rfl rfl y20))))))))))))) (zx rfl rfl (y2 rfl (zx rfl rfl (y14 (v := .inl (σ 34 11)) rfl (zx rfl rfl (y32 (zx rfl rfl (y1 rfl (zx rfl rfl (y32 (zx rfl rfl (y2 rfl (zx rfl rfl (y14 (v := .inl (σ 34 7)) rfl (zx rfl rfl (y1 rfl (zx rfl rfl (y36 (zx rfl rfl (y2 rfl (zx rfl rfl (y30 (r := []) rfl rfl rfl rfl rfl (fun s6 => zx rfl rfl y20))))) (zx rfl rfl y20))))))))) (zx rfl rfl y20))))) (zx rfl rfl y20))))))))))))) (zx rfl rfl (y2 rfl (zx rfl rfl (y14 (v := .inl (σ 34 11)) rfl (zx rfl rfl (y32 (zx rfl rfl (y1 rfl (zx rfl rfl (y32 (zx rfl rfl (y2 rfl (zx rfl rfl (y14 (v := .inl (σ 34 7)) rfl (zx rfl rfl (y1 rfl (zx rfl rfl (y36 (zx rfl rfl (y2 rfl (zx rfl rfl (y30 (r := []) rfl rfl rfl rfl rfl (fun s7 => zx rfl rfl y20))))) (zx rfl rfl y20))))))))) (zx rfl rfl y20))))) (zx rfl rfl y20)))))))))))))
set_option maxRecDepth 100000 in
theorem qX0_add_24_0 (d n : Nat) (σ : zS) (x1 x2 x3 : Int32) : zexec zc_X0_add zu_X0_add (zM d) (n + 1) 0 [.inr (.inr 24), .inl x1, .inl x2, .inl x3] σ = if (σ 24 5) < 200 then (if (σ 24 5) < 0 ∨ 200 ≤ (σ 24 5).toNatClampNeg then (none) else (if (σ 24 5) < 0 ∨ 200 ≤ (σ 24 5).toNatClampNeg then (none) else (if (σ 24 5) < 0 ∨ 200 ≤ (σ 24 5).toNatClampNeg then (none) else (if (σ 24 5) < 0 ∨ 200 ≤ (σ 24 5).toNatClampNeg then (none) else (some (1, 1, wr (wr (wr (wr (wr σ 25 ((σ 24 5).toNatClampNeg) x1) 26 ((σ 24 5).toNatClampNeg) x2) 27 ((σ 24 5).toNatClampNeg) x3) 28 ((σ 24 5).toNatClampNeg) (-1)) 24 5 ((σ 24 5) + 1))))))) else (some (1, 0, σ)) := ze rfl rfl rfl (zx rfl rfl (y2 rfl (zx rfl rfl (y14 (v := .inl (σ 24 5)) rfl (zx rfl rfl (y0 (zx rfl rfl (y36 (zx rfl rfl (y2 rfl (zx rfl rfl (y14 (v := .inr (.inr 25)) rfl (zx rfl rfl (y2 rfl (zx rfl rfl (y14 (v := .inl (σ 24 5)) rfl (zx rfl rfl (y1 rfl (zx rfl rfl (y17 rfl (zx rfl rfl (y2 rfl (zx rfl rfl (y14 (v := .inr (.inr 26)) rfl (zx rfl rfl (y2 rfl (zx rfl rfl (y14 (v := .inl (σ 24 5)) rfl (zx rfl rfl (y1 rfl (zx rfl rfl (y17 rfl (zx rfl rfl (y2 rfl (zx rfl rfl (y14 (v := .inr (.inr 27)) rfl (zx rfl rfl (y2 rfl (zx rfl rfl (y14 (v := .inl (σ 24 5)) rfl (zx rfl rfl (y1 rfl (zx rfl rfl (y17 rfl (zx rfl rfl (y2 rfl (zx rfl rfl (y14 (v := .inr (.inr 28)) rfl (zx rfl rfl (y2 rfl (zx rfl rfl (y14 (v := .inl (σ 24 5)) rfl (zx rfl rfl (y0 (zx rfl rfl (y17 rfl (zx rfl rfl (y2 rfl (zx rfl rfl (y21 rfl (zx rfl rfl (y14 (v := .inl (σ 24 5)) rfl (zx rfl rfl (y0 (zx rfl rfl (y7 (v := (σ 24 5) + 1) rfl (zx rfl rfl (y15 rfl (zx rfl rfl (y0 (zx rfl rfl (y19l (by decide))))))))))))))))))))))))))))))))))))))))))))))))))))))))))))))))) (zx rfl rfl (y0 (zx rfl rfl (y19l (by decide)))))))))))))
set_option maxRecDepth 100000 in
theorem qX0_add_24 (d : Nat) (σ : zS) (x1 x2 x3 : Int32) : zM (d + 1) mX0_add [.inr (.inr 24), .inl x1, .inl x2, .inl x3] σ = zexec zc_X0_add zu_X0_add (zM d) (999999 + 1) 0 [.inr (.inr 24), .inl x1, .inl x2, .inl x3] σ := zM_eq (zat_X0_add) rfl (Nat.le_of_ble_eq_true rfl)
set_option maxRecDepth 100000 in
theorem qX3_copyFrom_35_30_0 (d n : Nat) (σ : zS) : zexec zc_X3_copyFrom zu_X3_copyFrom (zM d) (n + 1) 0 [.inr (.inr 35), .inr (.inr 30)] σ = if (σ 30 5) = 0 ∨ (σ 30 5) = 1 then (some (0, 0, wr (wr (wr (wr (wr (wcp σ 31 36 8) 35 1 (σ 30 1)) 35 2 (σ 30 2)) 35 3 (σ 30 3)) 35 4 (σ 30 4)) 35 5 (σ 30 5))) else (none) := ze rfl rfl rfl (zx rfl rfl (y2 rfl (zx rfl rfl (y14 (v := .inr (.inr 31)) rfl (zx rfl rfl (y0 (zx rfl rfl (y2 rfl (zx rfl rfl (y14 (v := .inr (.inr 36)) rfl (zx rfl rfl (y0 (zx rfl rfl (y0 (zx rfl rfl (y25 (m := 8) rfl rfl (by decide) rfl (zx rfl rfl (y2 rfl (zx rfl rfl (y2 rfl (zx rfl rfl (y14 (v := .inl (σ 30 1)) rfl (zx rfl rfl (y15 rfl (zx rfl rfl (y2 rfl (zx rfl rfl (y2 rfl (zx rfl rfl (y14 (v := .inl (σ 30 2)) rfl (zx rfl rfl (y15 rfl (zx rfl rfl (y2 rfl (zx rfl rfl (y2 rfl (zx rfl rfl (y14 (v := .inl (σ 30 3)) rfl (zx rfl rfl (y15 rfl (zx rfl rfl (y2 rfl (zx rfl rfl (y2 rfl (zx rfl rfl (y14 (v := .inl (σ 30 4)) rfl (zx rfl rfl (y15 rfl (zx rfl rfl (y2 rfl (zx rfl rfl (y2 rfl (zx rfl rfl (y14 (v := .inl (σ 30 5)) rfl (zx rfl rfl (y31 rfl (zx rfl rfl y20)))))))))))))))))))))))))))))))))))))))))))))))))))))))))
set_option maxRecDepth 100000 in
theorem qX3_copyFrom_35_30 (d : Nat) (σ : zS) : zM (d + 1) mX3_copyFrom [.inr (.inr 35), .inr (.inr 30)] σ = zexec zc_X3_copyFrom zu_X3_copyFrom (zM d) (999999 + 1) 0 [.inr (.inr 35), .inr (.inr 30)] σ := zM_eq (zat_X3_copyFrom) rfl (Nat.le_of_ble_eq_true rfl)
set_option maxRecDepth 100000 in
theorem qX3_copyFrom_30_35_0 (d n : Nat) (σ : zS) : zexec zc_X3_copyFrom zu_X3_copyFrom (zM d) (n + 1) 0 [.inr (.inr 30), .inr (.inr 35)] σ = if (σ 35 5) = 0 ∨ (σ 35 5) = 1 then (some (0, 0, wr (wr (wr (wr (wr (wcp σ 36 31 8) 30 1 (σ 35 1)) 30 2 (σ 35 2)) 30 3 (σ 35 3)) 30 4 (σ 35 4)) 30 5 (σ 35 5))) else (none) := ze rfl rfl rfl (zx rfl rfl (y2 rfl (zx rfl rfl (y14 (v := .inr (.inr 36)) rfl (zx rfl rfl (y0 (zx rfl rfl (y2 rfl (zx rfl rfl (y14 (v := .inr (.inr 31)) rfl (zx rfl rfl (y0 (zx rfl rfl (y0 (zx rfl rfl (y25 (m := 8) rfl rfl (by decide) rfl (zx rfl rfl (y2 rfl (zx rfl rfl (y2 rfl (zx rfl rfl (y14 (v := .inl (σ 35 1)) rfl (zx rfl rfl (y15 rfl (zx rfl rfl (y2 rfl (zx rfl rfl (y2 rfl (zx rfl rfl (y14 (v := .inl (σ 35 2)) rfl (zx rfl rfl (y15 rfl (zx rfl rfl (y2 rfl (zx rfl rfl (y2 rfl (zx rfl rfl (y14 (v := .inl (σ 35 3)) rfl (zx rfl rfl (y15 rfl (zx rfl rfl (y2 rfl (zx rfl rfl (y2 rfl (zx rfl rfl (y14 (v := .inl (σ 35 4)) rfl (zx rfl rfl (y15 rfl (zx rfl rfl (y2 rfl (zx rfl rfl (y2 rfl (zx rfl rfl (y14 (v := .inl (σ 35 5)) rfl (zx rfl rfl (y31 rfl (zx rfl rfl y20)))))))))))))))))))))))))))))))))))))))))))))))))))))))))
set_option maxRecDepth 100000 in
theorem qX3_copyFrom_30_35 (d : Nat) (σ : zS) : zM (d + 1) mX3_copyFrom [.inr (.inr 30), .inr (.inr 35)] σ = zexec zc_X3_copyFrom zu_X3_copyFrom (zM d) (999999 + 1) 0 [.inr (.inr 30), .inr (.inr 35)] σ := zM_eq (zat_X3_copyFrom) rfl (Nat.le_of_ble_eq_true rfl)
set_option maxRecDepth 100000 in
theorem qX0_dropDecision_24_0 (d n : Nat) (σ : zS) (x1 : Int32) : zexec zc_X0_dropDecision zu_X0_dropDecision (zM d) (n + 1) 0 [.inr (.inr 24), .inl x1] σ = if x1 < 0 then (some (0, 0, σ)) else (if x1 < (σ 24 5) then (some (0, 0, wr σ 24 5 x1)) else (some (0, 0, σ))) := ze rfl rfl rfl (zx rfl rfl (y1 rfl (zx rfl rfl (y33 (zx rfl rfl y20) (zx rfl rfl (y1 rfl (zx rfl rfl (y2 rfl (zx rfl rfl (y14 (v := .inl (σ 24 5)) rfl (zx rfl rfl (y36 (zx rfl rfl (y2 rfl (zx rfl rfl (y1 rfl (zx rfl rfl (y15 rfl (zx rfl rfl y20))))))) (zx rfl rfl y20)))))))))))))
set_option maxRecDepth 100000 in
theorem qX0_dropDecision_24 (d : Nat) (σ : zS) (x1 : Int32) : zM (d + 1) mX0_dropDecision [.inr (.inr 24), .inl x1] σ = zexec zc_X0_dropDecision zu_X0_dropDecision (zM d) (999999 + 1) 0 [.inr (.inr 24), .inl x1] σ := zM_eq (zat_X0_dropDecision) rfl (Nat.le_of_ble_eq_true rfl)
set_option maxRecDepth 100000 in
theorem qX0_fits_24_0 (d n : Nat) (σ : zS) (x1 x2 x3 : Int32) : zexec zc_X0_fits zu_X0_fits (zM d) (n + 1) 0 [.inr (.inr 24), .inl x1, .inl x2, .inl x3] σ = if x1 = 5 then (zbI (zM d mX0_isOpen [.inr (.inr 24), .inl x2, .inl 1] σ) (fun r3 s3 => if r3 = 0 ∨ r3 = 1 then (some (1, r3, s3)) else (none))) else (if x1 = 6 then (zbI (zM d mX0_isOpen [.inr (.inr 24), .inl x2, .inl 1] σ) (fun r2 s2 => if r2 = 0 then (some (1, 0, s2)) else (if x3 = 0 then (some (1, 1, s2)) else (some (1, 0, s2))))) else (if x1 = 7 then (zbI (zM d mX0_isOpen [.inr (.inr 24), .inl x2, .inl 2] σ) (fun r1 s1 => if r1 = 0 then (some (1, 0, s1)) else (if x3 = 0 then (some (1, 1, s1)) else (some (1, 0, s1))))) else (if x1 = 8 then (if x2 = 0 then (some (1, 1, σ)) else (some (1, 0, σ))) else (some (1, 0, σ))))) := ze rfl rfl rfl (zx rfl rfl (y1 rfl (zx rfl rfl (y13 (ysw (zx rfl rfl (y2 rfl (zx rfl rfl (y1 rfl (zx rfl rfl (y0 (zx rfl rfl (y18 (r := []) rfl rfl rfl rfl rfl (fun r3 s3 => zx rfl rfl y19b))))))))) (ysw (zx rfl rfl (y2 rfl (zx rfl rfl (y1 rfl (zx rfl rfl (y0 (zx rfl rfl (y18 (r := []) rfl rfl rfl rfl rfl (fun r2 s2 => zx rfl rfl (y32 (zx rfl rfl (y0 (zx rfl rfl (y19l (by decide))))) (zx rfl rfl (y1 rfl (zx rfl rfl (y32 (zx rfl rfl (y0 (zx rfl rfl (y12 (zx rfl rfl (y19l (by decide))))))) (zx rfl rfl (y0 (zx rfl rfl (y19l (by decide))))))))))))))))))) (ysw (zx rfl rfl (y2 rfl (zx rfl rfl (y1 rfl (zx rfl rfl (y0 (zx rfl rfl (y18 (r := []) rfl rfl rfl rfl rfl (fun r1 s1 => zx rfl rfl (y32 (zx rfl rfl (y0 (zx rfl rfl (y19l (by decide))))) (zx rfl rfl (y1 rfl (zx rfl rfl (y32 (zx rfl rfl (y0 (zx rfl rfl (y12 (zx rfl rfl (y19l (by decide))))))) (zx rfl rfl (y0 (zx rfl rfl (y19l (by decide))))))))))))))))))) (ysw (zx rfl rfl (y1 rfl (zx rfl rfl (y32 (zx rfl rfl (y0 (zx rfl rfl (y12 (zx rfl rfl (y19l (by decide))))))) (zx rfl rfl (y0 (zx rfl rfl (y19l (by decide))))))))) (yswd (zx rfl rfl (y0 (zx rfl rfl (y19l (by decide))))))))))))))
set_option maxRecDepth 100000 in
theorem qX0_fits_24 (d : Nat) (σ : zS) (x1 x2 x3 : Int32) : zM (d + 1) mX0_fits [.inr (.inr 24), .inl x1, .inl x2, .inl x3] σ = zexec zc_X0_fits zu_X0_fits (zM d) (999999 + 1) 0 [.inr (.inr 24), .inl x1, .inl x2, .inl x3] σ := zM_eq (zat_X0_fits) rfl (Nat.le_of_ble_eq_true rfl)
set_option maxRecDepth 100000 in
theorem qX0_addSignal_24_0 (d n : Nat) (σ : zS) (x1 : Int32) : zexec zc_X0_addSignal zu_X0_addSignal (zM d) (n + 1) 0 [.inr (.inr 24), .inl x1] σ = if (σ 24 6) < 200 then (if (σ 24 6) < 0 ∨ 200 ≤ (σ 24 6).toNatClampNeg then (none) else (some (0, 0, wr (wr σ 29 ((σ 24 6).toNatClampNeg) x1) 24 6 ((σ 24 6) + 1)))) else (some (0, 0, σ)) := ze rfl rfl rfl (zx rfl rfl (y2 rfl (zx rfl rfl (y14 (v := .inl (σ 24 6)) rfl (zx rfl rfl (y0 (zx rfl rfl (y36 (zx rfl rfl (y2 rfl (zx rfl rfl (y14 (v := .inr (.inr 29)) rfl (zx rfl rfl (y2 rfl (zx rfl rfl (y14 (v := .inl (σ 24 6)) rfl (zx rfl rfl (y1 rfl (zx rfl rfl (y17 rfl (zx rfl rfl (y2 rfl (zx rfl rfl (y21 rfl (zx rfl rfl (y14 (v := .inl (σ 24 6)) rfl (zx rfl rfl (y0 (zx rfl rfl (y7 (v := (σ 24 6) + 1) rfl (zx rfl rfl (y15 rfl (zx rfl rfl y20))))))))))))))))))))))))) (zx rfl rfl y20)))))))))
set_option maxRecDepth 100000 in
theorem qX0_addSignal_24 (d : Nat) (σ : zS) (x1 : Int32) : zM (d + 1) mX0_addSignal [.inr (.inr 24), .inl x1] σ = zexec zc_X0_addSignal zu_X0_addSignal (zM d) (999999 + 1) 0 [.inr (.inr 24), .inl x1] σ := zM_eq (zat_X0_addSignal) rfl (Nat.le_of_ble_eq_true rfl)
set_option maxRecDepth 100000 in
theorem qX5_at_1_0 (d n : Nat) (σ : zS) (x1 : Int32) : zexec zc_X5_at zu_X5_at (zM d) (n + 1) 0 [.inr (.inr 1), .inl x1] σ = if x1 < 0 then (some (1, (-1), σ)) else (if x1 < (σ 1 1) then (if x1 < 0 ∨ 400 ≤ x1.toNatClampNeg then (none) else (some (1, σ 2 x1.toNatClampNeg, σ))) else (some (1, (-1), σ))) := ze rfl rfl rfl (zx rfl rfl (y1 rfl (zx rfl rfl (y33 (zx rfl rfl (y0 (zx rfl rfl y19))) (zx rfl rfl (y1 rfl (zx rfl rfl (y2 rfl (zx rfl rfl (y14 (v := .inl (σ 1 1)) rfl (zx rfl rfl (y36 (zx rfl rfl (y2 rfl (zx rfl rfl (y14 (v := .inr (.inr 2)) rfl (zx rfl rfl (y1 rfl (zx rfl rfl (y16 (v := σ 2 x1.toNatClampNeg) rfl rfl (zx rfl rfl (y12 (zx rfl rfl y19))))))))))) (zx rfl rfl (y0 (zx rfl rfl y19)))))))))))))))
set_option maxRecDepth 100000 in
theorem qX5_at_1 (d : Nat) (σ : zS) (x1 : Int32) : zM (d + 1) mX5_at [.inr (.inr 1), .inl x1] σ = zexec zc_X5_at zu_X5_at (zM d) (999999 + 1) 0 [.inr (.inr 1), .inl x1] σ := zM_eq (zat_X5_at) rfl (Nat.le_of_ble_eq_true rfl)
set_option maxRecDepth 100000 in
theorem qX6_isLetter_0 (d n : Nat) (σ : zS) (x0 : Int32) : zexec zc_X6_isLetter zu_X6_isLetter (zM d) (n + 1) 0 [.inl x0] σ = if x0 < 97 then (some (1, 0, σ)) else (if 122 < x0 then (some (1, 0, σ)) else (some (1, 1, σ))) := ze rfl rfl rfl (zx rfl rfl (y1 rfl (zx rfl rfl (y0 (zx rfl rfl (y36 (zx rfl rfl (y0 (zx rfl rfl (y19l (by decide))))) (zx rfl rfl (y1 rfl (zx rfl rfl (y0 (zx rfl rfl (y37 (zx rfl rfl (y0 (zx rfl rfl (y19l (by decide))))) (zx rfl rfl (y0 (zx rfl rfl (y12 (zx rfl rfl (y19l (by decide)))))))))))))))))))
set_option maxRecDepth 100000 in
theorem qX6_isLetter (d : Nat) (σ : zS) (x0 : Int32) : zM (d + 1) mX6_isLetter [.inl x0] σ = zexec zc_X6_isLetter zu_X6_isLetter (zM d) (999999 + 1) 0 [.inl x0] σ := zM_eq (zat_X6_isLetter) rfl (Nat.le_of_ble_eq_true rfl)
set_option maxRecDepth 100000 in
theorem qX6_isDigit_0 (d n : Nat) (σ : zS) (x0 : Int32) : zexec zc_X6_isDigit zu_X6_isDigit (zM d) (n + 1) 0 [.inl x0] σ = if x0 < 48 then (some (1, 0, σ)) else (if 57 < x0 then (some (1, 0, σ)) else (some (1, 1, σ))) := ze rfl rfl rfl (zx rfl rfl (y1 rfl (zx rfl rfl (y0 (zx rfl rfl (y36 (zx rfl rfl (y0 (zx rfl rfl (y19l (by decide))))) (zx rfl rfl (y1 rfl (zx rfl rfl (y0 (zx rfl rfl (y37 (zx rfl rfl (y0 (zx rfl rfl (y19l (by decide))))) (zx rfl rfl (y0 (zx rfl rfl (y12 (zx rfl rfl (y19l (by decide)))))))))))))))))))
set_option maxRecDepth 100000 in
theorem qX6_isDigit (d : Nat) (σ : zS) (x0 : Int32) : zM (d + 1) mX6_isDigit [.inl x0] σ = zexec zc_X6_isDigit zu_X6_isDigit (zM d) (999999 + 1) 0 [.inl x0] σ := zM_eq (zat_X6_isDigit) rfl (Nat.le_of_ble_eq_true rfl)
set_option maxRecDepth 100000 in
theorem qX6_addNumber_3_1_0 (d n : Nat) (σ : zS) (x2 : Int32) : zexec zc_X6_addNumber zu_X6_addNumber (zM d) (n + 1) 0 [.inr (.inr 3), .inr (.inr 1), .inl x2] σ = zexec zc_X6_addNumber zu_X6_addNumber (zM d) n 5 [.inr (.inr 3), .inr (.inr 1), .inl x2, .inl x2, .inl 0] σ := ze rfl rfl rfl (zx rfl rfl (y1 rfl (zx rfl rfl (y4 rfl (zx rfl rfl (y0 (zx rfl rfl (y4 rfl (zxc rfl rfl rfl rfl)))))))))
set_option maxRecDepth 100000 in
theorem qX6_addNumber_3_1 (d : Nat) (σ : zS) (x2 : Int32) : zM (d + 1) mX6_addNumber [.inr (.inr 3), .inr (.inr 1), .inl x2] σ = zexec zc_X6_addNumber zu_X6_addNumber (zM d) (999999 + 1) 0 [.inr (.inr 3), .inr (.inr 1), .inl x2] σ := zM_eq (zat_X6_addNumber) rfl (Nat.le_of_ble_eq_true rfl)
set_option maxRecDepth 100000 in
theorem qX6_addNumber_3_1_5 (d n : Nat) (σ : zS) (x2 x3 x4 : Int32) : zexec zc_X6_addNumber zu_X6_addNumber (zM d) (n + 1) 5 [.inr (.inr 3), .inr (.inr 1), .inl x2, .inl x3, .inl x4] σ = zbI (zM d mX5_length [.inr (.inr 1)] σ) (fun r1 s1 => if x3 < r1 then (zbI (zM d mX5_at [.inr (.inr 1), .inl x3] s1) (fun r2 s2 => zbI (zM d mX6_isDigit [.inl r2] s2) (fun r3 s3 => if r3 = 0 then (zexec zc_X6_addNumber zu_X6_addNumber (zM d) n 46 [.inr (.inr 3), .inl x2, .inl x3, .inl x4] s3) else (zbI (zM d mX5_at [.inr (.inr 1), .inl x3] s3) (fun r4 s4 => zexec zc_X6_addNumber zu_X6_addNumber (zM d) n 5 [.inr (.inr 3), .inr (.inr 1), .inl x2, .inl (x3 + 1), .inl ((x4 * 10) + (r4 - 48))] s4))))) else (zexec zc_X6_addNumber zu_X6_addNumber (zM d) n 46 [.inr (.inr 3), .inl x2, .inl x3, .inl x4] s1)) := ze rfl rfl rfl (zx rfl rfl (y1 rfl (zx rfl rfl (y2 rfl (zx rfl rfl (y18 (r := [.inl x3]) rfl rfl rfl rfl rfl (fun r1 s1 => zx rfl rfl (y36 (zx rfl rfl (y2 rfl (zx rfl rfl (y1 rfl (zx rfl rfl (y18 (r := []) rfl rfl rfl rfl rfl (fun r2 s2 => zx rfl rfl (y18 (r := []) rfl rfl rfl rfl rfl (fun r3 s3 => zx rfl rfl (y32 (zxc rfl rfl rfl rfl) (zx rfl rfl (y1 rfl (zx rfl rfl (y0 (zx rfl rfl (y7 (v := x4 * 10) rfl (zx rfl rfl (y2 rfl (zx rfl rfl (y1 rfl (zx rfl rfl (y18 (r := [.inl (x4 * 10)]) rfl rfl rfl rfl rfl (fun r4 s4 => zx rfl rfl (y0 (zx rfl rfl (y7 (v := r4 - 48) rfl (zx rfl rfl (y7 (v := (x4 * 10) + (r4 - 48)) rfl (zx rfl rfl (y4 rfl (zx rfl rfl (y6 rfl rfl (zx rfl rfl (y12 (zxc rfl rfl rfl rfl))))))))))))))))))))))))))))))))))) (zxc rfl rfl rfl rfl)))))))))
set_option maxRecDepth 100000 in
theorem qX6_addNumber_3_1_46 (d n : Nat) (σ : zS) (x2 x3 x4 : Int32) : zexec zc_X6_addNumber zu_X6_addNumber (zM d) (n + 1) 46 [.inr (.inr 3), .inl x2, .inl x3, .inl x4] σ = if 6 < (x3 - x2) then (zbV (zM d mX6_add [.inr (.inr 3), .inl 1, .inl x2, .inl x4] σ) (fun s1 => some (0, 0, s1))) else (zbV (zM d mX6_add [.inr (.inr 3), .inl 3, .inl x2, .inl x4] σ) (fun s2 => some (0, 0, s2))) := ze rfl rfl rfl (zx rfl rfl (y2 rfl (zx rfl rfl (y1 rfl (zx rfl rfl (y1 rfl (zx rfl rfl (y7 (v := x3 - x2) rfl (zx rfl rfl (y0 (zx rfl rfl (y37 (zx rfl rfl (y0 (zx rfl rfl (y1 rfl (zx rfl rfl (y1 rfl (zx rfl rfl (y30 (r := []) rfl rfl rfl rfl rfl (fun s1 => zx rfl rfl y20))))))))) (zx rfl rfl (y0 (zx rfl rfl (y12 (zx rfl rfl (y1 rfl (zx rfl rfl (y1 rfl (zx rfl rfl (y30 (r := []) rfl rfl rfl rfl rfl (fun s2 => zx rfl rfl y20)))))))))))))))))))))))
set_option maxRecDepth 100000 in
theorem qX6_addName_3_1_0 (d n : Nat) (σ : zS) (x2 : Int32) : zexec zc_X6_addName zu_X6_addName (zM d) (n + 1) 0 [.inr (.inr 3), .inr (.inr 1), .inl x2] σ = zexec zc_X6_addName zu_X6_addName (zM d) n 2 [.inr (.inr 3), .inr (.inr 1), .inl x2, .inl x2] σ := ze rfl rfl rfl (zx rfl rfl (y1 rfl (zx rfl rfl (y4 rfl (zxc rfl rfl rfl rfl)))))
set_option maxRecDepth 100000 in
theorem qX6_addName_3_1 (d : Nat) (σ : zS) (x2 : Int32) : zM (d + 1) mX6_addName [.inr (.inr 3), .inr (.inr 1), .inl x2] σ = zexec zc_X6_addName zu_X6_addName (zM d) (999999 + 1) 0 [.inr (.inr 3), .inr (.inr 1), .inl x2] σ := zM_eq (zat_X6_addName) rfl (Nat.le_of_ble_eq_true rfl)
set_option maxRecDepth 100000 in
theorem qX6_addName_3_1_2 (d n : Nat) (σ : zS) (x2 x3 : Int32) : zexec zc_X6_addName zu_X6_addName (zM d) (n + 1) 2 [.inr (.inr 3), .inr (.inr 1), .inl x2, .inl x3] σ = zbI (zM d mX5_length [.inr (.inr 1)] σ) (fun r1 s1 => if x3 < r1 then (zbI (zM d mX5_at [.inr (.inr 1), .inl x3] s1) (fun r2 s2 => zbI (zM d mX6_isLetter [.inl r2] s2) (fun r3 s3 => if r3 = 0 then (zbI (zM d mX5_at [.inr (.inr 1), .inl x2] s3) (fun r4 s4 => if (x3 - x2) = 1 then (if (r4 - 97) < 8 then (zbV (zM d mX6_add [.inr (.inr 3), .inl 2, .inl x2, .inl (r4 - 97)] s4) (fun s5 => some (0, 0, s5))) else (zbI (zM d mX6_sortOfWord [.inr (.inr 1), .inl x2, .inl x3] s4) (fun r6 s6 => if r6 = (-1) then (zbV (zM d mX6_add [.inr (.inr 3), .inl 1, .inl x2, .inl r6] s6) (fun s7 => some (0, 0, s7))) else (zbV (zM d mX6_add [.inr (.inr 3), .inl 4, .inl x2, .inl r6] s6) (fun s8 => some (0, 0, s8)))))) else (zbI (zM d mX6_sortOfWord [.inr (.inr 1), .inl x2, .inl x3] s4) (fun r9 s9 => if r9 = (-1) then (zbV (zM d mX6_add [.inr (.inr 3), .inl 1, .inl x2, .inl r9] s9) (fun s10 => some (0, 0, s10))) else (zbV (zM d mX6_add [.inr (.inr 3), .inl 4, .inl x2, .inl r9] s9) (fun s11 => some (0, 0, s11))))))) else (zexec zc_X6_addName zu_X6_addName (zM d) n 2 [.inr (.inr 3), .inr (.inr 1), .inl x2, .inl (x3 + 1)] s3)))) else (zbI (zM d mX5_at [.inr (.inr 1), .inl x2] s1) (fun r12 s12 => if (x3 - x2) = 1 then (if (r12 - 97) < 8 then (zbV (zM d mX6_add [.inr (.inr 3), .inl 2, .inl x2, .inl (r12 - 97)] s12) (fun s13 => some (0, 0, s13))) else (zbI (zM d mX6_sortOfWord [.inr (.inr 1), .inl x2, .inl x3] s12) (fun r14 s14 => if r14 = (-1) then (zbV (zM d mX6_add [.inr (.inr 3), .inl 1, .inl x2, .inl r14] s14) (fun s15 => some (0, 0, s15))) else (zbV (zM d mX6_add [.inr (.inr 3), .inl 4, .inl x2, .inl r14] s14) (fun s16 => some (0, 0, s16)))))) else (zbI (zM d mX6_sortOfWord [.inr (.inr 1), .inl x2, .inl x3] s12) (fun r17 s17 => if r17 = (-1) then (zbV (zM d mX6_add [.inr (.inr 3), .inl 1, .inl x2, .inl r17] s17) (fun s18 => some (0, 0, s18))) else (zbV (zM d mX6_add [.inr (.inr 3), .inl 4, .inl x2, .inl r17] s17) (fun s19 => some (0, 0, s19)))))))) := ze rfl rfl rfl (zx rfl rfl (y1 rfl (zx rfl rfl (y2 rfl (zx rfl rfl (y18 (r := [.inl x3]) rfl rfl rfl rfl rfl (fun r1 s1 => zx rfl rfl (y36 (zx rfl rfl (y2 rfl (zx rfl rfl (y1 rfl (zx rfl rfl (y18 (r := []) rfl rfl rfl rfl rfl (fun r2 s2 => zx rfl rfl (y18 (r := []) rfl rfl rfl rfl rfl (fun r3 s3 => zx rfl rfl (y32 (zx rfl rfl (y2 rfl (zx rfl rfl (y1 rfl (zx rfl rfl (y18 (r := []) rfl rfl rfl rfl rfl (fun r4 s4 => zx rfl rfl (y0 (zx rfl rfl (y7 (v := r4 - 97) rfl (zx rfl rfl (y4 rfl (zx rfl rfl (y1 rfl (zx rfl rfl (y1 rfl (zx rfl rfl (y7 (v := x3 - x2) rfl (zx rfl rfl (y0 (zx rfl rfl (y35 (zx rfl rfl (y1 rfl (zx rfl rfl (y0 (zx rfl rfl (y36 (zx rfl rfl (y2 rfl (zx rfl rfl (y0 (zx rfl rfl (y1 rfl (zx rfl rfl (y1 rfl (zx rfl rfl (y30 (r := []) rfl rfl rfl rfl rfl (fun s5 => zx rfl rfl y20))))))))))) (zx rfl rfl (y2 rfl (zx rfl rfl (y1 rfl (zx rfl rfl (y1 rfl (zx rfl rfl (y18 (r := []) rfl rfl rfl rfl rfl (fun r6 s6 => zx rfl rfl (y4 rfl (zx rfl rfl (y2 rfl (zx rfl rfl (y1 rfl (zx rfl rfl (y0 (zx rfl rfl (y35 (zx rfl rfl (y0 (zx rfl rfl (y12 (zx rfl rfl (y1 rfl (zx rfl rfl (y1 rfl (zx rfl rfl (y30 (r := []) rfl rfl rfl rfl rfl (fun s7 => zx rfl rfl y20))))))))))) (zx rfl rfl (y0 (zx rfl rfl (y1 rfl (zx rfl rfl (y1 rfl (zx rfl rfl (y30 (r := []) rfl rfl rfl rfl rfl (fun s8 => zx rfl rfl y20))))))))))))))))))))))))))))))))) (zx rfl rfl (y2 rfl (zx rfl rfl (y1 rfl (zx rfl rfl (y1 rfl (zx rfl rfl (y18 (r := []) rfl rfl rfl rfl rfl (fun r9 s9 => zx rfl rfl (y4 rfl (zx rfl rfl (y2 rfl (zx rfl rfl (y1 rfl (zx rfl rfl (y0 (zx rfl rfl (y35 (zx rfl rfl (y0 (zx rfl rfl (y12 (zx rfl rfl (y1 rfl (zx rfl rfl (y1 rfl (zx rfl rfl (y30 (r := []) rfl rfl rfl rfl rfl (fun s10 => zx rfl rfl y20))))))))))) (zx rfl rfl (y0 (zx rfl rfl (y1 rfl (zx rfl rfl (y1 rfl (zx rfl rfl (y30 (r := []) rfl rfl rfl rfl rfl (fun s11 => zx rfl rfl y20))))))))))))))))))))))))))))))))))))))))))))))))) (zx rfl rfl (y6 rfl rfl (zx rfl rfl (y12 (zxc rfl rfl rfl rfl))))))))))))))) (zx rfl rfl (y2 rfl (zx rfl rfl (y1 rfl (zx rfl rfl (y18 (r := []) rfl rfl rfl rfl rfl (fun r12 s12 => zx rfl rfl (y0 (zx rfl rfl (y7 (v := r12 - 97) rfl (zx rfl rfl (y4 rfl (zx rfl rfl (y1 rfl (zx rfl rfl (y1 rfl (zx rfl rfl (y7 (v := x3 - x2) rfl (zx rfl rfl (y0 (zx rfl rfl (y35 (zx rfl rfl (y1 rfl (zx rfl rfl (y0 (zx rfl rfl (y36 (zx rfl rfl (y2 rfl (zx rfl rfl (y0 (zx rfl rfl (y1 rfl (zx rfl rfl (y1 rfl (zx rfl rfl (y30 (r := []) rfl rfl rfl rfl rfl (fun s13 => zx rfl rfl y20))))))))))) (zx rfl rfl (y2 rfl (zx rfl rfl (y1 rfl (zx rfl rfl (y1 rfl (zx rfl rfl (y18 (r := []) rfl rfl rfl rfl rfl (fun r14 s14 => zx rfl rfl (y4 rfl (zx rfl rfl (y2 rfl (zx rfl rfl (y1 rfl (zx rfl rfl (y0 (zx rfl rfl (y35 (zx rfl rfl (y0 (zx rfl rfl (y12 (zx rfl rfl (y1 rfl (zx rfl rfl (y1 rfl (zx rfl rfl (y30 (r := []) rfl rfl rfl rfl rfl (fun s15 => zx rfl rfl y20))))))))))) (zx rfl rfl (y0 (zx rfl rfl (y1 rfl (zx rfl rfl (y1 rfl (zx rfl rfl (y30 (r := []) rfl rfl rfl rfl rfl (fun s16 => zx rfl rfl y20))))))))))))))))))))))))))))))))) (zx rfl rfl (y2 rfl (zx rfl rfl (y1 rfl (zx rfl rfl (y1 rfl (zx rfl rfl (y18 (r := []) rfl rfl rfl rfl rfl (fun r17 s17 => zx rfl rfl (y4 rfl (zx rfl rfl (y2 rfl (zx rfl rfl (y1 rfl (zx rfl rfl (y0 (zx rfl rfl (y35 (zx rfl rfl (y0 (zx rfl rfl (y12 (zx rfl rfl (y1 rfl (zx rfl rfl (y1 rfl (zx rfl rfl (y30 (r := []) rfl rfl rfl rfl rfl (fun s18 => zx rfl rfl y20))))))))))) (zx rfl rfl (y0 (zx rfl rfl (y1 rfl (zx rfl rfl (y1 rfl (zx rfl rfl (y30 (r := []) rfl rfl rfl rfl rfl (fun s19 => zx rfl rfl y20)))))))))))))))))))))))))))))))))))))))))))))))))))))))))
set_option maxRecDepth 100000 in
theorem qX2_isBlockEnd_0 (d n : Nat) (σ : zS) (x0 : Int32) : zexec zc_X2_isBlockEnd zu_X2_isBlockEnd (zM d) (n + 1) 0 [.inl x0] σ = if x0 = 0 then (some (1, 1, σ)) else (if x0 = 124 then (some (1, 1, σ)) else (if x0 = 93 then (some (1, 1, σ)) else (some (1, 0, σ)))) := ze rfl rfl rfl (zx rfl rfl (y1 rfl (zx rfl rfl (y32 (zx rfl rfl (y0 (zx rfl rfl (y12 (zx rfl rfl (y19l (by decide))))))) (zx rfl rfl (y1 rfl (zx rfl rfl (y0 (zx rfl rfl (y35 (zx rfl rfl (y0 (zx rfl rfl (y12 (zx rfl rfl (y19l (by decide))))))) (zx rfl rfl (y1 rfl (zx rfl rfl (y0 (zx rfl rfl (y35 (zx rfl rfl (y0 (zx rfl rfl (y12 (zx rfl rfl (y19l (by decide))))))) (zx rfl rfl (y0 (zx rfl rfl (y19l (by decide)))))))))))))))))))))
set_option maxRecDepth 100000 in
theorem qX2_isBlockEnd (d : Nat) (σ : zS) (x0 : Int32) : zM (d + 1) mX2_isBlockEnd [.inl x0] σ = zexec zc_X2_isBlockEnd zu_X2_isBlockEnd (zM d) (999999 + 1) 0 [.inl x0] σ := zM_eq (zat_X2_isBlockEnd) rfl (Nat.le_of_ble_eq_true rfl)
set_option maxRecDepth 100000 in
theorem qX2_readStatement_23_0 (d n : Nat) (σ : zS) (x1 : Int32) : zexec zc_X2_readStatement zu_X2_readStatement (zM d) (n + 1) 0 [.inr (.inr 23), .inl x1] σ = zbI (zM d mX6_kind [.inr (.inr 3)] σ) (fun r1 s1 => if r1 = 63 then (zbI (zM d mX2_readChoice [.inr (.inr 23), .inl x1] s1) (fun r2 s2 => if r2 = 0 ∨ r2 = 1 then (some (1, r2, s2)) else (none))) else (zbI (zM d mX6_kind [.inr (.inr 3)] s1) (fun r3 s3 => if r3 = 64 then (zbI (zM d mX2_readLoop [.inr (.inr 23), .inl x1] s3) (fun r4 s4 => if r4 = 0 ∨ r4 = 1 then (some (1, r4, s4)) else (none))) else (zbI (zM d mX6_kind [.inr (.inr 3)] s3) (fun r5 s5 => if r5 = 2 then (zbI (zM d mX2_readAssignment [.inr (.inr 23), .inl x1] s5) (fun r6 s6 => if r6 = 0 then (some (1, 0, s6)) else (zbI (zM d mX6_take [.inr (.inr 3), .inl 59] s6) (fun r7 s7 => if r7 = 0 then (some (1, 0, s7)) else (some (1, 1, s7)))))) else (zbI (zM d mX6_isWord [.inr (.inr 3), .inl 9] s5) (fun r8 s8 => if r8 = 0 then (some (1, 0, s8)) else (zbI (zM d mX2_readStop [.inr (.inr 23), .inl x1] s8) (fun r9 s9 => if r9 = 0 then (some (1, 0, s9)) else (zbI (zM d mX6_take [.inr (.inr 3), .inl 59] s9) (fun r10 s10 => if r10 = 0 then (some (1, 0, s10)) else (some (1, 1, s10))))))))))))) := ze rfl rfl rfl (zx rfl rfl (y2 rfl (zx rfl rfl (y14 (v := .inr (.inr 3)) rfl (zx rfl rfl (y18 (r := []) rfl rfl rfl rfl rfl (fun r1 s1 => zx rfl rfl (y0 (zx rfl rfl (y35 (zx rfl rfl (y2 rfl (zx rfl rfl (y1 rfl (zx rfl rfl (y18 (r := []) rfl rfl rfl rfl rfl (fun r2 s2 => zx rfl rfl y19b))))))) (zx rfl rfl (y2 rfl (zx rfl rfl (y14 (v := .inr (.inr 3)) rfl (zx rfl rfl (y18 (r := []) rfl rfl rfl rfl rfl (fun r3 s3 => zx rfl rfl (y0 (zx rfl rfl (y35 (zx rfl rfl (y2 rfl (zx rfl rfl (y1 rfl (zx rfl rfl (y18 (r := []) rfl rfl rfl rfl rfl (fun r4 s4 => zx rfl rfl y19b))))))) (zx rfl rfl (y2 rfl (zx rfl rfl (y14 (v := .inr (.inr 3)) rfl (zx rfl rfl (y18 (r := []) rfl rfl rfl rfl rfl (fun r5 s5 => zx rfl rfl (y0 (zx rfl rfl (y35 (zx rfl rfl (y2 rfl (zx rfl rfl (y1 rfl (zx rfl rfl (y18 (r := []) rfl rfl rfl rfl rfl (fun r6 s6 => zx rfl rfl (y32 (zx rfl rfl (y0 (zx rfl rfl (y19l (by decide))))) (zx rfl rfl (y2 rfl (zx rfl rfl (y14 (v := .inr (.inr 3)) rfl (zx rfl rfl (y0 (zx rfl rfl (y18 (r := []) rfl rfl rfl rfl rfl (fun r7 s7 => zx rfl rfl (y32 (zx rfl rfl (y0 (zx rfl rfl (y19l (by decide))))) (zx rfl rfl (y0 (zx rfl rfl (y12 (zx rfl rfl (y19l (by decide))))))))))))))))))))))))) (zx rfl rfl (y2 rfl (zx rfl rfl (y14 (v := .inr (.inr 3)) rfl (zx rfl rfl (y0 (zx rfl rfl (y18 (r := []) rfl rfl rfl rfl rfl (fun r8 s8 => zx rfl rfl (y32 (zx rfl rfl (y0 (zx rfl rfl (y19l (by decide))))) (zx rfl rfl (y2 rfl (zx rfl rfl (y1 rfl (zx rfl rfl (y18 (r := []) rfl rfl rfl rfl rfl (fun r9 s9 => zx rfl rfl (y32 (zx rfl rfl (y0 (zx rfl rfl (y19l (by decide))))) (zx rfl rfl (y2 rfl (zx rfl rfl (y14 (v := .inr (.inr 3)) rfl (zx rfl rfl (y0 (zx rfl rfl (y18 (r := []) rfl rfl rfl rfl rfl (fun r10 s10 => zx rfl rfl (y32 (zx rfl rfl (y0 (zx rfl rfl (y19l (by decide))))) (zx rfl rfl (y0 (zx rfl rfl (y12 (zx rfl rfl (y19l (by decide)))))))))))))))))))))))))))))))))))))))))))))))))))))))))))))))))
set_option maxRecDepth 100000 in
theorem qX2_readStatement_23 (d : Nat) (σ : zS) (x1 : Int32) : zM (d + 1) mX2_readStatement [.inr (.inr 23), .inl x1] σ = zexec zc_X2_readStatement zu_X2_readStatement (zM d) (999999 + 1) 0 [.inr (.inr 23), .inl x1] σ := zM_eq (zat_X2_readStatement) rfl (Nat.le_of_ble_eq_true rfl)
set_option maxRecDepth 100000 in
theorem qX1_sortAt_15_0 (d n : Nat) (σ : zS) (x1 : Int32) : zexec zc_X1_sortAt zu_X1_sortAt (zM d) (n + 1) 0 [.inr (.inr 15), .inl x1] σ = zbI (zM d mX1_holds [.inr (.inr 15), .inl x1] σ) (fun r1 s1 => if r1 = 0 then (some (1, 13, s1)) else (if x1 < 0 ∨ 200 ≤ x1.toNatClampNeg then (none) else (some (1, s1 16 x1.toNatClampNeg, s1)))) := ze rfl rfl rfl (zx rfl rfl (y2 rfl (zx rfl rfl (y1 rfl (zx rfl rfl (y18 (r := []) rfl rfl rfl rfl rfl (fun r1 s1 => zx rfl rfl (y32 (zx rfl rfl (y0 (zx rfl rfl y19))) (zx rfl rfl (y2 rfl (zx rfl rfl (y14 (v := .inr (.inr 16)) rfl (zx rfl rfl (y1 rfl (zx rfl rfl (y16 (v := s1 16 x1.toNatClampNeg) rfl rfl (zx rfl rfl (y12 (zx rfl rfl y19)))))))))))))))))))
set_option maxRecDepth 100000 in
theorem qX1_sortAt_15 (d : Nat) (σ : zS) (x1 : Int32) : zM (d + 1) mX1_sortAt [.inr (.inr 15), .inl x1] σ = zexec zc_X1_sortAt zu_X1_sortAt (zM d) (999999 + 1) 0 [.inr (.inr 15), .inl x1] σ := zM_eq (zat_X1_sortAt) rfl (Nat.le_of_ble_eq_true rfl)
set_option maxRecDepth 100000 in
theorem qX1_firstAt_15_0 (d n : Nat) (σ : zS) (x1 : Int32) : zexec zc_X1_firstAt zu_X1_firstAt (zM d) (n + 1) 0 [.inr (.inr 15), .inl x1] σ = zbI (zM d mX1_holds [.inr (.inr 15), .inl x1] σ) (fun r1 s1 => if r1 = 0 then (some (1, 0, s1)) else (if x1 < 0 ∨ 200 ≤ x1.toNatClampNeg then (none) else (some (1, s1 18 x1.toNatClampNeg, s1)))) := ze rfl rfl rfl (zx rfl rfl (y2 rfl (zx rfl rfl (y1 rfl (zx rfl rfl (y18 (r := []) rfl rfl rfl rfl rfl (fun r1 s1 => zx rfl rfl (y32 (zx rfl rfl (y0 (zx rfl rfl y19))) (zx rfl rfl (y2 rfl (zx rfl rfl (y14 (v := .inr (.inr 18)) rfl (zx rfl rfl (y1 rfl (zx rfl rfl (y16 (v := s1 18 x1.toNatClampNeg) rfl rfl (zx rfl rfl (y12 (zx rfl rfl y19)))))))))))))))))))
set_option maxRecDepth 100000 in
theorem qX1_firstAt_15 (d : Nat) (σ : zS) (x1 : Int32) : zM (d + 1) mX1_firstAt [.inr (.inr 15), .inl x1] σ = zexec zc_X1_firstAt zu_X1_firstAt (zM d) (999999 + 1) 0 [.inr (.inr 15), .inl x1] σ := zM_eq (zat_X1_firstAt) rfl (Nat.le_of_ble_eq_true rfl)
set_option maxRecDepth 100000 in
theorem qX4_turn_34_0 (d n : Nat) (σ : zS) (x1 x2 : Int32) : zexec zc_X4_turn zu_X4_turn (zM d) (n + 1) 0 [.inr (.inr 34), .inl x1, .inl x2] σ = if x1 = 12 then (zexec zc_X4_turn zu_X4_turn (zM d) n 16 [.inr (.inr 34), .inl x1, .inl x2] σ) else (if x1 = 13 then (zexec zc_X4_turn zu_X4_turn (zM d) n 16 [.inr (.inr 34), .inl x1, .inl x2] σ) else (if (σ 30 3) < 1000 then (zexec zc_X4_turn zu_X4_turn (zM d) n 41 [.inr (.inr 34), .inl x1, .inl x2, .inl 1] σ) else (some (0, 0, wr σ 34 11 3)))) := ze rfl rfl rfl (zx rfl rfl (y1 rfl (zx rfl rfl (y0 (zx rfl rfl (y35 (zxc rfl rfl rfl rfl) (zx rfl rfl (y1 rfl (zx rfl rfl (y0 (zx rfl rfl (y35 (zxc rfl rfl rfl rfl) (zx rfl rfl (y0 (zx rfl rfl (y12 (zx rfl rfl (y4 rfl (zx rfl rfl (y1 rfl (zx rfl rfl ((y32 rfl rfl).trans (yel (by decide) (zx rfl rfl (y2 rfl (zx rfl rfl (y14 (v := .inr (.inr 30)) rfl (zx rfl rfl (y14 (v := .inl (σ 30 3)) rfl (zx rfl rfl (y0 (zx rfl rfl (y36 (zxc rfl rfl rfl rfl) (zx rfl rfl (y2 rfl (zx rfl rfl (y0 (zx rfl rfl (y15 rfl (zx rfl rfl y20))))))))))))))))))))))))))))))))))))))))
set_option maxRecDepth 100000 in
theorem qX4_turn_34 (d : Nat) (σ : zS) (x1 x2 : Int32) : zM (d + 1) mX4_turn [.inr (.inr 34), .inl x1, .inl x2] σ = zexec zc_X4_turn zu_X4_turn (zM d) (999999 + 1) 0 [.inr (.inr 34), .inl x1, .inl x2] σ := zM_eq (zat_X4_turn) rfl (Nat.le_of_ble_eq_true rfl)
set_option maxRecDepth 100000 in
theorem qX4_turn_34_16 (d n : Nat) (σ : zS) (x1 x2 : Int32) : zexec zc_X4_turn zu_X4_turn (zM d) (n + 1) 16 [.inr (.inr 34), .inl x1, .inl x2] σ = zexec zc_X4_turn zu_X4_turn (zM d) n 41 [.inr (.inr 34), .inl x1, .inl x2, .inl 0] σ := ze rfl rfl rfl (zx rfl rfl (y0 (zx rfl rfl (y4 rfl (zx rfl rfl (y1 rfl (zx rfl rfl ((y32 rfl rfl).trans (yif (by decide) (zxc rfl rfl rfl rfl))))))))))
set_option maxRecDepth 100000 in
theorem qX4_turn_34_41 (d n : Nat) (σ : zS) (x1 x2 x3 : Int32) : zexec zc_X4_turn zu_X4_turn (zM d) (n + 1) 41 [.inr (.inr 34), .inl x1, .inl x2, .inl x3] σ = if x3 = 0 then (if x1 = 0 then (zexec zc_X4_turn zu_X4_turn (zM d) n 132 [.inr (.inr 34)] (wr σ 30 3 ((σ 30 3) + 0))) else (if x1 = 1 then (zexec zc_X4_turn zu_X4_turn (zM d) n 143 [.inr (.inr 34), .inl x2] (wr σ 30 3 ((σ 30 3) + 0))) else (if x1 = 2 then (zexec zc_X4_turn zu_X4_turn (zM d) n 156 [.inr (.inr 34)] (wr σ 30 3 ((σ 30 3) + 0))) else (if x1 = 3 then (zexec zc_X4_turn zu_X4_turn (zM d) n 169 [.inr (.inr 34), .inl x2] (wr σ 30 3 ((σ 30 3) + 0))) else (if x1 = 4 then (zexec zc_X4_turn zu_X4_turn (zM d) n 184 [.inr (.inr 34), .inl x2] (wr σ 30 3 ((σ 30 3) + 0))) else (if x1 = 5 then (zexec zc_X4_turn zu_X4_turn (zM d) n 220 [.inr (.inr 34), .inl x2] (wr σ 30 3 ((σ 30 3) + 0))) else (if x1 = 6 then (zexec zc_X4_turn zu_X4_turn (zM d) n 248 [.inr (.inr 34)] (wr σ 30 3 ((σ 30 3) + 0))) else (if x1 = 7 then (zexec zc_X4_turn zu_X4_turn (zM d) n 255 [.inr (.inr 34)] (wr σ 30 3 ((σ 30 3) + 0))) else (if x1 = 8 then (zexec zc_X4_turn zu_X4_turn (zM d) n 273 [.inr (.inr 34), .inl x2] (wr σ 30 3 ((σ 30 3) + 0))) else (if x1 = 9 then (zexec zc_X4_turn zu_X4_turn (zM d) n 281 [.inr (.inr 34)] (wr σ 30 3 ((σ 30 3) + 0))) else (if x1 = 10 then (zexec zc_X4_turn zu_X4_turn (zM d) n 311 [.inr (.inr 34), .inl x2] (wr σ 30 3 ((σ 30 3) + 0))) else (if x1 = 11 then (zexec zc_X4_turn zu_X4_turn (zM d) n 311 [.inr (.inr 34), .inl x2] (wr σ 30 3 ((σ 30 3) + 0))) else (if x1 = 12 then (zexec zc_X4_turn zu_X4_turn (zM d) n 300 [.inr (.inr 34), .inl x2] (wr σ 30 3 ((σ 30 3) + 0))) else (if x1 = 13 then (zexec zc_X4_turn zu_X4_turn (zM d) n 292 [.inr (.inr 34)] (wr σ 30 3 ((σ 30 3) + 0))) else (zexec zc_X4_turn zu_X4_turn (zM d) n 311 [.inr (.inr 34), .inl x2] (wr σ 30 3 ((σ 30 3) + 0))))))))))))))))) else (if x1 = 0 then (zexec zc_X4_turn zu_X4_turn (zM d) n 132 [.inr (.inr 34)] (wr σ 30 3 ((σ 30 3) + 1))) else (if x1 = 1 then (zexec zc_X4_turn zu_X4_turn (zM d) n 143 [.inr (.inr 34), .inl x2] (wr σ 30 3 ((σ 30 3) + 1))) else (if x1 = 2 then (zexec zc_X4_turn zu_X4_turn (zM d) n 156 [.inr (.inr 34)] (wr σ 30 3 ((σ 30 3) + 1))) else (if x1 = 3 then (zexec zc_X4_turn zu_X4_turn (zM d) n 169 [.inr (.inr 34), .inl x2] (wr σ 30 3 ((σ 30 3) + 1))) else (if x1 = 4 then (zexec zc_X4_turn zu_X4_turn (zM d) n 184 [.inr (.inr 34), .inl x2] (wr σ 30 3 ((σ 30 3) + 1))) else (if x1 = 5 then (zexec zc_X4_turn zu_X4_turn (zM d) n 220 [.inr (.inr 34), .inl x2] (wr σ 30 3 ((σ 30 3) + 1))) else (if x1 = 6 then (zexec zc_X4_turn zu_X4_turn (zM d) n 248 [.inr (.inr 34)] (wr σ 30 3 ((σ 30 3) + 1))) else (if x1 = 7 then (zexec zc_X4_turn zu_X4_turn (zM d) n 255 [.inr (.inr 34)] (wr σ 30 3 ((σ 30 3) + 1))) else (if x1 = 8 then (zexec zc_X4_turn zu_X4_turn (zM d) n 273 [.inr (.inr 34), .inl x2] (wr σ 30 3 ((σ 30 3) + 1))) else (if x1 = 9 then (zexec zc_X4_turn zu_X4_turn (zM d) n 281 [.inr (.inr 34)] (wr σ 30 3 ((σ 30 3) + 1))) else (if x1 = 10 then (zexec zc_X4_turn zu_X4_turn (zM d) n 311 [.inr (.inr 34), .inl x2] (wr σ 30 3 ((σ 30 3) + 1))) else (if x1 = 11 then (zexec zc_X4_turn zu_X4_turn (zM d) n 311 [.inr (.inr 34), .inl x2] (wr σ 30 3 ((σ 30 3) + 1))) else (if x1 = 12 then (zexec zc_X4_turn zu_X4_turn (zM d) n 300 [.inr (.inr 34), .inl x2] (wr σ 30 3 ((σ 30 3) + 1))) else (if x1 = 13 then (zexec zc_X4_turn zu_X4_turn (zM d) n 292 [.inr (.inr 34)] (wr σ 30 3 ((σ 30 3) + 1))) else (zexec zc_X4_turn zu_X4_turn (zM d) n 311 [.inr (.inr 34), .inl x2] (wr σ 30 3 ((σ 30 3) + 1))))))))))))))))) := ze rfl rfl rfl (zx rfl rfl (y2 rfl (zx rfl rfl (y14 (v := .inr (.inr 30)) rfl (zx rfl rfl (y21 rfl (zx rfl rfl (y14 (v := .inl (σ 30 3)) rfl (zx rfl rfl (y1 rfl (zx rfl rfl (y32 (zx rfl rfl (y0 (zx rfl rfl (y7 (v := (σ 30 3) + 0) rfl (zx rfl rfl (y15 rfl (zx rfl rfl (y1 rfl (zx rfl rfl (y13 (ysw (zxc rfl rfl rfl rfl) (ysw (zxc rfl rfl rfl rfl) (ysw (zxc rfl rfl rfl rfl) (ysw (zxc rfl rfl rfl rfl) (ysw (zxc rfl rfl rfl rfl) (ysw (zxc rfl rfl rfl rfl) (ysw (zxc rfl rfl rfl rfl) (ysw (zxc rfl rfl rfl rfl) (ysw (zxc rfl rfl rfl rfl) (ysw (zxc rfl rfl rfl rfl) (ysw (zxc rfl rfl rfl rfl) (ysw (zxc rfl rfl rfl rfl) (ysw (zxc rfl rfl rfl rfl) (ysw (zxc rfl rfl rfl rfl) (yswd (zxc rfl rfl rfl rfl)))))))))))))))))))))))))) (zx rfl rfl (y0 (zx rfl rfl (y12 (zx rfl rfl (y7 (v := (σ 30 3) + 1) rfl (zx rfl rfl (y15 rfl (zx rfl rfl (y1 rfl (zx rfl rfl (y13 (ysw (zxc rfl rfl rfl rfl) (ysw (zxc rfl rfl rfl rfl) (ysw (zxc rfl rfl rfl rfl) (ysw (zxc rfl rfl rfl rfl) (ysw (zxc rfl rfl rfl rfl) (ysw (zxc rfl rfl rfl rfl) (ysw (zxc rfl rfl rfl rfl) (ysw (zxc rfl rfl rfl rfl) (ysw (zxc rfl rfl rfl rfl) (ysw (zxc rfl rfl rfl rfl) (ysw (zxc rfl rfl rfl rfl) (ysw (zxc rfl rfl rfl rfl) (ysw (zxc rfl rfl rfl rfl) (ysw (zxc rfl rfl rfl rfl) (yswd (zxc rfl rfl rfl rfl))))))))))))))))))))))))))))))))))))))))
set_option maxRecDepth 100000 in
theorem qX4_turn_34_132 (d n : Nat) (σ : zS) : zexec zc_X4_turn zu_X4_turn (zM d) (n + 1) 132 [.inr (.inr 34)] σ = zbI (zM d mX4_workOut [.inr (.inr 34)] σ) (fun r1 s1 => zbV (zM d mX4_finish [.inr (.inr 34), .inl r1] s1) (fun s2 => some (0, 0, s2))) := ze rfl rfl rfl (zx rfl rfl (y2 rfl (zx rfl rfl (y2 rfl (zx rfl rfl (y18 (r := [.inr (.inr 34)]) rfl rfl rfl rfl rfl (fun r1 s1 => zx rfl rfl (y30 (r := []) rfl rfl rfl rfl rfl (fun s2 => zx rfl rfl (y12 (zx rfl rfl y20)))))))))))
set_option maxRecDepth 100000 in
theorem qX4_turn_34_143 (d n : Nat) (σ : zS) (x2 : Int32) : zexec zc_X4_turn zu_X4_turn (zM d) (n + 1) 143 [.inr (.inr 34), .inl x2] σ = zbI (zM d mX4_workOut [.inr (.inr 34)] σ) (fun r1 s1 => zbV (zM d mX4_order [.inr (.inr 34), .inl 1, .inl x2, .inl r1] s1) (fun s2 => some (0, 0, s2))) := ze rfl rfl rfl (zx rfl rfl (y2 rfl (zx rfl rfl (y0 (zx rfl rfl (y1 rfl (zx rfl rfl (y2 rfl (zx rfl rfl (y18 (r := [.inl x2, .inl 1, .inr (.inr 34)]) rfl rfl rfl rfl rfl (fun r1 s1 => zx rfl rfl (y30 (r := []) rfl rfl rfl rfl rfl (fun s2 => zx rfl rfl (y12 (zx rfl rfl y20)))))))))))))))
set_option maxRecDepth 100000 in
theorem qX4_turn_34_156 (d n : Nat) (σ : zS) : zexec zc_X4_turn zu_X4_turn (zM d) (n + 1) 156 [.inr (.inr 34)] σ = zbI (zM d mX4_workOut [.inr (.inr 34)] σ) (fun r1 s1 => zbV (zM d mX4_order [.inr (.inr 34), .inl 2, .inl 0, .inl r1] s1) (fun s2 => some (0, 0, s2))) := ze rfl rfl rfl (zx rfl rfl (y2 rfl (zx rfl rfl (y0 (zx rfl rfl (y0 (zx rfl rfl (y2 rfl (zx rfl rfl (y18 (r := [.inl 0, .inl 2, .inr (.inr 34)]) rfl rfl rfl rfl rfl (fun r1 s1 => zx rfl rfl (y30 (r := []) rfl rfl rfl rfl rfl (fun s2 => zx rfl rfl (y12 (zx rfl rfl y20)))))))))))))))
set_option maxRecDepth 100000 in
theorem qX4_turn_34_169 (d n : Nat) (σ : zS) (x2 : Int32) : zexec zc_X4_turn zu_X4_turn (zM d) (n + 1) 169 [.inr (.inr 34), .inl x2] σ = zbI (zM d mX3_get [.inr (.inr 30), .inl x2] σ) (fun r1 s1 => zbV (zM d mX4_waitFor [.inr (.inr 34), .inl r1] s1) (fun s2 => some (0, 0, s2))) := ze rfl rfl rfl (zx rfl rfl (y2 rfl (zx rfl rfl (y2 rfl (zx rfl rfl (y14 (v := .inr (.inr 30)) rfl (zx rfl rfl (y1 rfl (zx rfl rfl (y18 (r := [.inr (.inr 34)]) rfl rfl rfl rfl rfl (fun r1 s1 => zx rfl rfl (y30 (r := []) rfl rfl rfl rfl rfl (fun s2 => zx rfl rfl (y12 (zx rfl rfl y20)))))))))))))))
set_option maxRecDepth 100000 in
theorem qX4_turn_34_184 (d n : Nat) (σ : zS) (x2 : Int32) : zexec zc_X4_turn zu_X4_turn (zM d) (n + 1) 184 [.inr (.inr 34), .inl x2] σ = zbI (zM d mX3_get [.inr (.inr 30), .inl x2] σ) (fun r1 s1 => zbI (zM d mX1_secondAt [.inr (.inr 15), .inl (s1 30 1)] s1) (fun r2 s2 => zbI (zM d mX3_get [.inr (.inr 30), .inl r2] s2) (fun r3 s3 => zbV (zM d mX4_waitForAny [.inr (.inr 34), .inl r1, .inl r3] s3) (fun s4 => some (0, 0, s4))))) := ze rfl rfl rfl (zx rfl rfl (y2 rfl (zx rfl rfl (y2 rfl (zx rfl rfl (y14 (v := .inr (.inr 30)) rfl (zx rfl rfl (y1 rfl (zx rfl rfl (y18 (r := [.inr (.inr 34)]) rfl rfl rfl rfl rfl (fun r1 s1 => zx rfl rfl (y2 rfl (zx rfl rfl (y14 (v := .inr (.inr 30)) rfl (zx rfl rfl (y2 rfl (zx rfl rfl (y14 (v := .inr (.inr 15)) rfl (zx rfl rfl (y2 rfl (zx rfl rfl (y14 (v := .inr (.inr 30)) rfl (zx rfl rfl (y14 (v := .inl (s1 30 1)) rfl (zx rfl rfl (y18 (r := [.inr (.inr 30), .inl r1, .inr (.inr 34)]) rfl rfl rfl rfl rfl (fun r2 s2 => zx rfl rfl (y18 (r := [.inl r1, .inr (.inr 34)]) rfl rfl rfl rfl rfl (fun r3 s3 => zx rfl rfl (y30 (r := []) rfl rfl rfl rfl rfl (fun s4 => zx rfl rfl (y12 (zx rfl rfl y20)))))))))))))))))))))))))))))))))
set_option maxRecDepth 100000 in
theorem qX4_turn_34_220 (d n : Nat) (σ : zS) (x2 : Int32) : zexec zc_X4_turn zu_X4_turn (zM d) (n + 1) 220 [.inr (.inr 34), .inl x2] σ = zbI (zM d mX3_get [.inr (.inr 30), .inl x2] σ) (fun r1 s1 => zbI (zM d mX4_endOf [.inr (.inr 34), .inl r1] s1) (fun r2 s2 => if r2 = (-1) then (zbV (zM d mX4_finish [.inr (.inr 34), .inl 0] s2) (fun s3 => some (0, 0, s3))) else (zbV (zM d mX4_finish [.inr (.inr 34), .inl 1] s2) (fun s4 => some (0, 0, s4))))) := ze rfl rfl rfl (zx rfl rfl (y2 rfl (zx rfl rfl (y2 rfl (zx rfl rfl (y2 rfl (zx rfl rfl (y14 (v := .inr (.inr 30)) rfl (zx rfl rfl (y1 rfl (zx rfl rfl (y18 (r := [.inr (.inr 34), .inr (.inr 34)]) rfl rfl rfl rfl rfl (fun r1 s1 => zx rfl rfl (y18 (r := [.inr (.inr 34)]) rfl rfl rfl rfl rfl (fun r2 s2 => zx rfl rfl (y0 (zx rfl rfl (y35 (zx rfl rfl (y0 (zx rfl rfl (y12 (zx rfl rfl (y30 (r := []) rfl rfl rfl rfl rfl (fun s3 => zx rfl rfl (y12 (zx rfl rfl y20))))))))) (zx rfl rfl (y0 (zx rfl rfl (y30 (r := []) rfl rfl rfl rfl rfl (fun s4 => zx rfl rfl (y12 (zx rfl rfl y20)))))))))))))))))))))))))
set_option maxRecDepth 100000 in
theorem qX4_turn_34_248 (d n : Nat) (σ : zS) : zexec zc_X4_turn zu_X4_turn (zM d) (n + 1) 248 [.inr (.inr 34)] σ = zbV (zM d mX4_takeSignal [.inr (.inr 34)] σ) (fun s1 => some (0, 0, s1)) := ze rfl rfl rfl (zx rfl rfl (y2 rfl (zx rfl rfl (y30 (r := []) rfl rfl rfl rfl rfl (fun s1 => zx rfl rfl (y12 (zx rfl rfl y20)))))))
end
section
-- equations: what each method of the image does, from cut to cut (printed by wip/eqs.py)
set_option maxRecDepth 100000 in
theorem qX4_turn_34_255 (d n : Nat) (σ : zS) : zexec zc_X4_turn zu_X4_turn (zM d) (n + 1) 255 [.inr (.inr 34)] σ = zbI (zM d mX0_valueAt [.inr (.inr 24), .inl (σ 34 6)] σ) (fun r1 s1 => zbV (zM d mX4_finish [.inr (.inr 34), .inl r1] s1) (fun s2 => some (0, 0, s2))) := ze rfl rfl rfl (zx rfl rfl (y2 rfl (zx rfl rfl (y2 rfl (zx rfl rfl (y14 (v := .inr (.inr 24)) rfl (zx rfl rfl (y2 rfl (zx rfl rfl (y14 (v := .inl (σ 34 6)) rfl (zx rfl rfl (y18 (r := [.inr (.inr 34)]) rfl rfl rfl rfl rfl (fun r1 s1 => zx rfl rfl (y30 (r := []) rfl rfl rfl rfl rfl (fun s2 => zx rfl rfl (y12 (zx rfl rfl y20)))))))))))))))))
set_option maxRecDepth 100000 in
theorem qX4_turn_34_273 (d n : Nat) (σ : zS) (x2 : Int32) : zexec zc_X4_turn zu_X4_turn (zM d) (n + 1) 273 [.inr (.inr 34), .inl x2] σ = zbV (zM d mX4_patch [.inr (.inr 34), .inl x2] σ) (fun s1 => some (0, 0, s1)) := ze rfl rfl rfl (zx rfl rfl (y2 rfl (zx rfl rfl (y1 rfl (zx rfl rfl (y30 (r := []) rfl rfl rfl rfl rfl (fun s1 => zx rfl rfl (y12 (zx rfl rfl y20)))))))))
set_option maxRecDepth 100000 in
theorem qX4_turn_34_281 (d n : Nat) (σ : zS) : zexec zc_X4_turn zu_X4_turn (zM d) (n + 1) 281 [.inr (.inr 34)] σ = zbI (zM d mX4_workOut [.inr (.inr 34)] σ) (fun r1 s1 => zbV (zM d mX4_stop [.inr (.inr 34), .inl r1] s1) (fun s2 => some (0, 0, s2))) := ze rfl rfl rfl (zx rfl rfl (y2 rfl (zx rfl rfl (y2 rfl (zx rfl rfl (y18 (r := [.inr (.inr 34)]) rfl rfl rfl rfl rfl (fun r1 s1 => zx rfl rfl (y30 (r := []) rfl rfl rfl rfl rfl (fun s2 => zx rfl rfl (y12 (zx rfl rfl y20)))))))))))
set_option maxRecDepth 100000 in
theorem qX4_turn_34_292 (d n : Nat) (σ : zS) : zexec zc_X4_turn zu_X4_turn (zM d) (n + 1) 292 [.inr (.inr 34)] σ = zbV (zM d mX4_stop [.inr (.inr 34), .inl 0] σ) (fun s1 => some (0, 0, s1)) := ze rfl rfl rfl (zx rfl rfl (y2 rfl (zx rfl rfl (y0 (zx rfl rfl (y30 (r := []) rfl rfl rfl rfl rfl (fun s1 => zx rfl rfl (y12 (zx rfl rfl y20)))))))))
set_option maxRecDepth 100000 in
theorem qX4_turn_34_300 (d n : Nat) (σ : zS) (x2 : Int32) : zexec zc_X4_turn zu_X4_turn (zM d) (n + 1) 300 [.inr (.inr 34), .inl x2] σ = some (0, 0, wr σ 30 1 x2) := ze rfl rfl rfl (zx rfl rfl (y2 rfl (zx rfl rfl (y14 (v := .inr (.inr 30)) rfl (zx rfl rfl (y1 rfl (zx rfl rfl (y15 rfl (zx rfl rfl (y12 (zx rfl rfl y20)))))))))))
set_option maxRecDepth 100000 in
theorem qX4_turn_34_311 (d n : Nat) (σ : zS) (x2 : Int32) : zexec zc_X4_turn zu_X4_turn (zM d) (n + 1) 311 [.inr (.inr 34), .inl x2] σ = zbI (zM d mX4_workOut [.inr (.inr 34)] σ) (fun r1 s1 => if r1 = 0 then (some (0, 0, wr s1 30 1 x2)) else (some (0, 0, wr s1 30 1 ((s1 30 1) + 1)))) := ze rfl rfl rfl (zx rfl rfl (y2 rfl (zx rfl rfl (y14 (v := .inr (.inr 30)) rfl (zx rfl rfl (y2 rfl (zx rfl rfl (y18 (r := [.inr (.inr 30)]) rfl rfl rfl rfl rfl (fun r1 s1 => zx rfl rfl (y32 (zx rfl rfl (y1 rfl (zx rfl rfl (y15 rfl (zx rfl rfl y20))))) (zx rfl rfl (y2 rfl (zx rfl rfl (y14 (v := .inr (.inr 30)) rfl (zx rfl rfl (y14 (v := .inl (s1 30 1)) rfl (zx rfl rfl (y0 (zx rfl rfl (y7 (v := (s1 30 1) + 1) rfl (zx rfl rfl (y12 (zx rfl rfl (y15 rfl (zx rfl rfl y20)))))))))))))))))))))))))
set_option maxRecDepth 100000 in
theorem qX4_differ_34_0 (d n : Nat) (σ : zS) : zexec zc_X4_differ zu_X4_differ (zM d) (n + 1) 0 [.inr (.inr 34)] σ = some (0, 0, wr (wr σ 34 11 2) 34 12 (σ 34 7)) := ze rfl rfl rfl (zx rfl rfl (y2 rfl (zx rfl rfl (y0 (zx rfl rfl (y15 rfl (zx rfl rfl (y2 rfl (zx rfl rfl (y2 rfl (zx rfl rfl (y14 (v := .inl (σ 34 7)) rfl (zx rfl rfl (y15 rfl (zx rfl rfl y20)))))))))))))))
set_option maxRecDepth 100000 in
theorem qX4_differ_34 (d : Nat) (σ : zS) : zM (d + 1) mX4_differ [.inr (.inr 34)] σ = zexec zc_X4_differ zu_X4_differ (zM d) (999999 + 1) 0 [.inr (.inr 34)] σ := zM_eq (zat_X4_differ) rfl (Nat.le_of_ble_eq_true rfl)
set_option maxRecDepth 100000 in
theorem qX0_isOpen_24_0 (d n : Nat) (σ : zS) (x1 x2 : Int32) : zexec zc_X0_isOpen zu_X0_isOpen (zM d) (n + 1) 0 [.inr (.inr 24), .inl x1, .inl x2] σ = zbI (zM d mX0_holds [.inr (.inr 24), .inl x1] σ) (fun r1 s1 => if r1 = 0 then (some (1, 0, s1)) else (if x1 < 0 ∨ 200 ≤ x1.toNatClampNeg then (none) else (if (s1 25 x1.toNatClampNeg) = x2 then (if x1 < 0 ∨ 200 ≤ x1.toNatClampNeg then (none) else (if (s1 28 x1.toNatClampNeg) = (-1) then (some (1, 1, s1)) else (some (1, 0, s1)))) else (some (1, 0, s1))))) := ze rfl rfl rfl (zx rfl rfl (y2 rfl (zx rfl rfl (y1 rfl (zx rfl rfl (y18 (r := []) rfl rfl rfl rfl rfl (fun r1 s1 => zx rfl rfl (y32 (zx rfl rfl (y0 (zx rfl rfl (y19l (by decide))))) (zx rfl rfl (y2 rfl (zx rfl rfl (y14 (v := .inr (.inr 25)) rfl (zx rfl rfl (y1 rfl (zx rfl rfl (y16 (v := s1 25 x1.toNatClampNeg) rfl rfl (zx rfl rfl (y1 rfl (zx rfl rfl (y35 (zx rfl rfl (y2 rfl (zx rfl rfl (y14 (v := .inr (.inr 28)) rfl (zx rfl rfl (y1 rfl (zx rfl rfl (y16 (v := s1 28 x1.toNatClampNeg) rfl rfl (zx rfl rfl (y0 (zx rfl rfl (y35 (zx rfl rfl (y0 (zx rfl rfl (y12 (zx rfl rfl (y19l (by decide))))))) (zx rfl rfl (y0 (zx rfl rfl (y19l (by decide))))))))))))))))) (zx rfl rfl (y0 (zx rfl rfl (y19l (by decide)))))))))))))))))))))))))
set_option maxRecDepth 100000 in
theorem qX0_isOpen_24 (d : Nat) (σ : zS) (x1 x2 : Int32) : zM (d + 1) mX0_isOpen [.inr (.inr 24), .inl x1, .inl x2] σ = zexec zc_X0_isOpen zu_X0_isOpen (zM d) (999999 + 1) 0 [.inr (.inr 24), .inl x1, .inl x2] σ := zM_eq (zat_X0_isOpen) rfl (Nat.le_of_ble_eq_true rfl)
set_option maxRecDepth 100000 in
theorem qX6_sortOfWord_1_0 (d n : Nat) (σ : zS) (x1 x2 : Int32) : zexec zc_X6_sortOfWord zu_X6_sortOfWord (zM d) (n + 1) 0 [.inr (.inr 1), .inl x1, .inl x2] σ = zbI (zM d mX6_spells [.inr (.inr 1), .inl x1, .inl x2, .inr (.inr 1000)] σ) (fun r1 s1 => if r1 = 0 then (zbI (zM d mX6_spells [.inr (.inr 1), .inl x1, .inl x2, .inr (.inr 1001)] s1) (fun r2 s2 => if r2 = 0 then (zbI (zM d mX6_spells [.inr (.inr 1), .inl x1, .inl x2, .inr (.inr 1002)] s2) (fun r3 s3 => if r3 = 0 then (zbI (zM d mX6_spells [.inr (.inr 1), .inl x1, .inl x2, .inr (.inr 1003)] s3) (fun r4 s4 => if r4 = 0 then (zbI (zM d mX6_spells [.inr (.inr 1), .inl x1, .inl x2, .inr (.inr 1004)] s4) (fun r5 s5 => if r5 = 0 then (zbI (zM d mX6_spells [.inr (.inr 1), .inl x1, .inl x2, .inr (.inr 1005)] s5) (fun r6 s6 => if r6 = 0 then (zbI (zM d mX6_spells [.inr (.inr 1), .inl x1, .inl x2, .inr (.inr 1006)] s6) (fun r7 s7 => if r7 = 0 then (zbI (zM d mX6_spells [.inr (.inr 1), .inl x1, .inl x2, .inr (.inr 1007)] s7) (fun r8 s8 => if r8 = 0 then (zbI (zM d mX6_spells [.inr (.inr 1), .inl x1, .inl x2, .inr (.inr 1008)] s8) (fun r9 s9 => if r9 = 0 then (some (1, (-1), s9)) else (some (1, 3, s9)))) else (some (1, 9, s8)))) else (some (1, 8, s7)))) else (some (1, 7, s6)))) else (some (1, 6, s5)))) else (some (1, 5, s4)))) else (some (1, 4, s3)))) else (some (1, 2, s2)))) else (some (1, 1, s1))) := ze rfl rfl rfl (zx rfl rfl (y2 rfl (zx rfl rfl (y1 rfl (zx rfl rfl (y1 rfl (zx rfl rfl (y27 (by decide) (zx rfl rfl (y18 (r := []) rfl rfl rfl rfl rfl (fun r1 s1 => zx rfl rfl (y32 (zx rfl rfl (y2 rfl (zx rfl rfl (y1 rfl (zx rfl rfl (y1 rfl (zx rfl rfl (y27 (by decide) (zx rfl rfl (y18 (r := []) rfl rfl rfl rfl rfl (fun r2 s2 => zx rfl rfl (y32 (zx rfl rfl (y2 rfl (zx rfl rfl (y1 rfl (zx rfl rfl (y1 rfl (zx rfl rfl (y27 (by decide) (zx rfl rfl (y18 (r := []) rfl rfl rfl rfl rfl (fun r3 s3 => zx rfl rfl (y32 (zx rfl rfl (y2 rfl (zx rfl rfl (y1 rfl (zx rfl rfl (y1 rfl (zx rfl rfl (y27 (by decide) (zx rfl rfl (y18 (r := []) rfl rfl rfl rfl rfl (fun r4 s4 => zx rfl rfl (y32 (zx rfl rfl (y2 rfl (zx rfl rfl (y1 rfl (zx rfl rfl (y1 rfl (zx rfl rfl (y27 (by decide) (zx rfl rfl (y18 (r := []) rfl rfl rfl rfl rfl (fun r5 s5 => zx rfl rfl (y32 (zx rfl rfl (y2 rfl (zx rfl rfl (y1 rfl (zx rfl rfl (y1 rfl (zx rfl rfl (y27 (by decide) (zx rfl rfl (y18 (r := []) rfl rfl rfl rfl rfl (fun r6 s6 => zx rfl rfl (y32 (zx rfl rfl (y2 rfl (zx rfl rfl (y1 rfl (zx rfl rfl (y1 rfl (zx rfl rfl (y27 (by decide) (zx rfl rfl (y18 (r := []) rfl rfl rfl rfl rfl (fun r7 s7 => zx rfl rfl (y32 (zx rfl rfl (y2 rfl (zx rfl rfl (y1 rfl (zx rfl rfl (y1 rfl (zx rfl rfl (y27 (by decide) (zx rfl rfl (y18 (r := []) rfl rfl rfl rfl rfl (fun r8 s8 => zx rfl rfl (y32 (zx rfl rfl (y2 rfl (zx rfl rfl (y1 rfl (zx rfl rfl (y1 rfl (zx rfl rfl (y27 (by decide) (zx rfl rfl (y18 (r := []) rfl rfl rfl rfl rfl (fun r9 s9 => zx rfl rfl (y32 (zx rfl rfl (y0 (zx rfl rfl y19))) (zx rfl rfl (y0 (zx rfl rfl (y12 (zx rfl rfl y19))))))))))))))))) (zx rfl rfl (y0 (zx rfl rfl y19))))))))))))))) (zx rfl rfl (y0 (zx rfl rfl y19))))))))))))))) (zx rfl rfl (y0 (zx rfl rfl y19))))))))))))))) (zx rfl rfl (y0 (zx rfl rfl y19))))))))))))))) (zx rfl rfl (y0 (zx rfl rfl y19))))))))))))))) (zx rfl rfl (y0 (zx rfl rfl y19))))))))))))))) (zx rfl rfl (y0 (zx rfl rfl y19))))))))))))))) (zx rfl rfl (y0 (zx rfl rfl y19)))))))))))))))
set_option maxRecDepth 100000 in
theorem qX6_sortOfWord_1 (d : Nat) (σ : zS) (x1 x2 : Int32) : zM (d + 1) mX6_sortOfWord [.inr (.inr 1), .inl x1, .inl x2] σ = zexec zc_X6_sortOfWord zu_X6_sortOfWord (zM d) (999999 + 1) 0 [.inr (.inr 1), .inl x1, .inl x2] σ := zM_eq (zat_X6_sortOfWord) rfl (Nat.le_of_ble_eq_true rfl)
set_option maxRecDepth 100000 in
theorem qX2_readChoice_23_0 (d n : Nat) (σ : zS) (x1 : Int32) : zexec zc_X2_readChoice zu_X2_readChoice (zM d) (n + 1) 0 [.inr (.inr 23), .inl x1] σ = if x1 < 10 then (zbI (zM d mX1_add [.inr (.inr 7), .inl 10, .inl 0] σ) (fun r1 s1 => zbV (zM d mX6_skip [.inr (.inr 3)] s1) (fun s2 => zbI (zM d mX2_readX [.inr (.inr 23), .inl (x1 + 1)] s2) (fun r3 s3 => if r3 = 0 then (some (1, 0, s3)) else (zbI (zM d mX6_take [.inr (.inr 3), .inl 91] s3) (fun r4 s4 => if r4 = 0 then (some (1, 0, s4)) else (zbI (zM d mX2_readStatements [.inr (.inr 23), .inl (x1 + 1)] s4) (fun r5 s5 => if r5 = 0 then (some (1, 0, s5)) else (zbI (zM d mX6_take [.inr (.inr 3), .inl 124] s5) (fun r6 s6 => if r6 = 0 then (some (1, 0, s6)) else (zbI (zM d mX1_addJump [.inr (.inr 7), .inl 0] s6) (fun r7 s7 => zbI (zM d mX1_size [.inr (.inr 7)] s7) (fun r8 s8 => zbV (zM d mX1_setFirst [.inr (.inr 7), .inl r1, .inl r8] s8) (fun s9 => zbI (zM d mX2_readStatements [.inr (.inr 23), .inl (x1 + 1)] s9) (fun r10 s10 => if r10 = 0 then (some (1, 0, s10)) else (zbI (zM d mX6_take [.inr (.inr 3), .inl 93] s10) (fun r11 s11 => if r11 = 0 then (some (1, 0, s11)) else (zbI (zM d mX1_size [.inr (.inr 7)] s11) (fun r12 s12 => zbV (zM d mX1_setFirst [.inr (.inr 7), .inl r7, .inl r12] s12) (fun s13 => some (1, 1, s13))))))))))))))))))))) else (some (1, 0, σ)) := ze rfl rfl rfl (zx rfl rfl (y1 rfl (zx rfl rfl (y0 (zx rfl rfl (y36 (zx rfl rfl (y2 rfl (zx rfl rfl (y14 (v := .inr (.inr 7)) rfl (zx rfl rfl (y0 (zx rfl rfl (y0 (zx rfl rfl (y18 (r := []) rfl rfl rfl rfl rfl (fun r1 s1 => zx rfl rfl (y4 rfl (zx rfl rfl (y2 rfl (zx rfl rfl (y14 (v := .inr (.inr 3)) rfl (zx rfl rfl (y30 (r := []) rfl rfl rfl rfl rfl (fun s2 => zx rfl rfl (y2 rfl (zx rfl rfl (y1 rfl (zx rfl rfl (y0 (zx rfl rfl (y7 (v := x1 + 1) rfl (zx rfl rfl (y18 (r := []) rfl rfl rfl rfl rfl (fun r3 s3 => zx rfl rfl (y32 (zx rfl rfl (y0 (zx rfl rfl (y19l (by decide))))) (zx rfl rfl (y2 rfl (zx rfl rfl (y14 (v := .inr (.inr 3)) rfl (zx rfl rfl (y0 (zx rfl rfl (y18 (r := []) rfl rfl rfl rfl rfl (fun r4 s4 => zx rfl rfl (y32 (zx rfl rfl (y0 (zx rfl rfl (y19l (by decide))))) (zx rfl rfl (y2 rfl (zx rfl rfl (y1 rfl (zx rfl rfl (y0 (zx rfl rfl (y7 (v := x1 + 1) rfl (zx rfl rfl (y18 (r := []) rfl rfl rfl rfl rfl (fun r5 s5 => zx rfl rfl (y32 (zx rfl rfl (y0 (zx rfl rfl (y19l (by decide))))) (zx rfl rfl (y2 rfl (zx rfl rfl (y14 (v := .inr (.inr 3)) rfl (zx rfl rfl (y0 (zx rfl rfl (y18 (r := []) rfl rfl rfl rfl rfl (fun r6 s6 => zx rfl rfl (y32 (zx rfl rfl (y0 (zx rfl rfl (y19l (by decide))))) (zx rfl rfl (y2 rfl (zx rfl rfl (y14 (v := .inr (.inr 7)) rfl (zx rfl rfl (y0 (zx rfl rfl (y18 (r := []) rfl rfl rfl rfl rfl (fun r7 s7 => zx rfl rfl (y4 rfl (zx rfl rfl (y2 rfl (zx rfl rfl (y14 (v := .inr (.inr 7)) rfl (zx rfl rfl (y1 rfl (zx rfl rfl (y2 rfl (zx rfl rfl (y14 (v := .inr (.inr 7)) rfl (zx rfl rfl (y18 (r := [.inl r1, .inr (.inr 7)]) rfl rfl rfl rfl rfl (fun r8 s8 => zx rfl rfl (y30 (r := []) rfl rfl rfl rfl rfl (fun s9 => zx rfl rfl (y2 rfl (zx rfl rfl (y1 rfl (zx rfl rfl (y0 (zx rfl rfl (y7 (v := x1 + 1) rfl (zx rfl rfl (y18 (r := []) rfl rfl rfl rfl rfl (fun r10 s10 => zx rfl rfl (y32 (zx rfl rfl (y0 (zx rfl rfl (y19l (by decide))))) (zx rfl rfl (y2 rfl (zx rfl rfl (y14 (v := .inr (.inr 3)) rfl (zx rfl rfl (y0 (zx rfl rfl (y18 (r := []) rfl rfl rfl rfl rfl (fun r11 s11 => zx rfl rfl (y32 (zx rfl rfl (y0 (zx rfl rfl (y19l (by decide))))) (zx rfl rfl (y2 rfl (zx rfl rfl (y14 (v := .inr (.inr 7)) rfl (zx rfl rfl (y1 rfl (zx rfl rfl (y2 rfl (zx rfl rfl (y14 (v := .inr (.inr 7)) rfl (zx rfl rfl (y18 (r := [.inl r7, .inr (.inr 7)]) rfl rfl rfl rfl rfl (fun r12 s12 => zx rfl rfl (y30 (r := []) rfl rfl rfl rfl rfl (fun s13 => zx rfl rfl (y0 (zx rfl rfl (y19l (by decide))))))))))))))))))))))))))))))))))))))))))))))))))))))))))))))))))))))))))))))))))))))))))))))))))))))))))))))))))))))))))))))) (zx rfl rfl (y0 (zx rfl rfl (y19l (by decide)))))))))))
set_option maxRecDepth 100000 in
theorem qX2_readChoice_23 (d : Nat) (σ : zS) (x1 : Int32) : zM (d + 1) mX2_readChoice [.inr (.inr 23), .inl x1] σ = zexec zc_X2_readChoice zu_X2_readChoice (zM d) (999999 + 1) 0 [.inr (.inr 23), .inl x1] σ := zM_eq (zat_X2_readChoice) rfl (Nat.le_of_ble_eq_true rfl)
set_option maxRecDepth 100000 in
theorem qX2_readLoop_23_0 (d n : Nat) (σ : zS) (x1 : Int32) : zexec zc_X2_readLoop zu_X2_readLoop (zM d) (n + 1) 0 [.inr (.inr 23), .inl x1] σ = if x1 < 10 then (zbI (zM d mX1_add [.inr (.inr 7), .inl 11, .inl 0] σ) (fun r1 s1 => zbV (zM d mX6_skip [.inr (.inr 3)] s1) (fun s2 => zbI (zM d mX2_readX [.inr (.inr 23), .inl (x1 + 1)] s2) (fun r3 s3 => if r3 = 0 then (some (1, 0, s3)) else (zbI (zM d mX6_take [.inr (.inr 3), .inl 91] s3) (fun r4 s4 => if r4 = 0 then (some (1, 0, s4)) else (zbI (zM d mX2_readStatements [.inr (.inr 23), .inl (x1 + 1)] s4) (fun r5 s5 => if r5 = 0 then (some (1, 0, s5)) else (zbI (zM d mX6_take [.inr (.inr 3), .inl 93] s5) (fun r6 s6 => if r6 = 0 then (some (1, 0, s6)) else (zbI (zM d mX1_addJump [.inr (.inr 7), .inl r1] s6) (fun r7 s7 => zbI (zM d mX1_size [.inr (.inr 7)] s7) (fun r8 s8 => zbV (zM d mX1_setFirst [.inr (.inr 7), .inl r1, .inl r8] s8) (fun s9 => some (1, 1, s9))))))))))))))) else (some (1, 0, σ)) := ze rfl rfl rfl (zx rfl rfl (y1 rfl (zx rfl rfl (y0 (zx rfl rfl (y36 (zx rfl rfl (y2 rfl (zx rfl rfl (y14 (v := .inr (.inr 7)) rfl (zx rfl rfl (y0 (zx rfl rfl (y0 (zx rfl rfl (y18 (r := []) rfl rfl rfl rfl rfl (fun r1 s1 => zx rfl rfl (y4 rfl (zx rfl rfl (y2 rfl (zx rfl rfl (y14 (v := .inr (.inr 3)) rfl (zx rfl rfl (y30 (r := []) rfl rfl rfl rfl rfl (fun s2 => zx rfl rfl (y2 rfl (zx rfl rfl (y1 rfl (zx rfl rfl (y0 (zx rfl rfl (y7 (v := x1 + 1) rfl (zx rfl rfl (y18 (r := []) rfl rfl rfl rfl rfl (fun r3 s3 => zx rfl rfl (y32 (zx rfl rfl (y0 (zx rfl rfl (y19l (by decide))))) (zx rfl rfl (y2 rfl (zx rfl rfl (y14 (v := .inr (.inr 3)) rfl (zx rfl rfl (y0 (zx rfl rfl (y18 (r := []) rfl rfl rfl rfl rfl (fun r4 s4 => zx rfl rfl (y32 (zx rfl rfl (y0 (zx rfl rfl (y19l (by decide))))) (zx rfl rfl (y2 rfl (zx rfl rfl (y1 rfl (zx rfl rfl (y0 (zx rfl rfl (y7 (v := x1 + 1) rfl (zx rfl rfl (y18 (r := []) rfl rfl rfl rfl rfl (fun r5 s5 => zx rfl rfl (y32 (zx rfl rfl (y0 (zx rfl rfl (y19l (by decide))))) (zx rfl rfl (y2 rfl (zx rfl rfl (y14 (v := .inr (.inr 3)) rfl (zx rfl rfl (y0 (zx rfl rfl (y18 (r := []) rfl rfl rfl rfl rfl (fun r6 s6 => zx rfl rfl (y32 (zx rfl rfl (y0 (zx rfl rfl (y19l (by decide))))) (zx rfl rfl (y2 rfl (zx rfl rfl (y14 (v := .inr (.inr 7)) rfl (zx rfl rfl (y1 rfl (zx rfl rfl (y18 (r := []) rfl rfl rfl rfl rfl (fun r7 s7 => zx rfl rfl (y22 rfl (zx rfl rfl (y2 rfl (zx rfl rfl (y14 (v := .inr (.inr 7)) rfl (zx rfl rfl (y1 rfl (zx rfl rfl (y2 rfl (zx rfl rfl (y14 (v := .inr (.inr 7)) rfl (zx rfl rfl (y18 (r := [.inl r1, .inr (.inr 7)]) rfl rfl rfl rfl rfl (fun r8 s8 => zx rfl rfl (y30 (r := []) rfl rfl rfl rfl rfl (fun s9 => zx rfl rfl (y0 (zx rfl rfl (y19l (by decide))))))))))))))))))))))))))))))))))))))))))))))))))))))))))))))))))))))))))))))))))))))))))) (zx rfl rfl (y0 (zx rfl rfl (y19l (by decide)))))))))))
set_option maxRecDepth 100000 in
theorem qX2_readLoop_23 (d : Nat) (σ : zS) (x1 : Int32) : zM (d + 1) mX2_readLoop [.inr (.inr 23), .inl x1] σ = zexec zc_X2_readLoop zu_X2_readLoop (zM d) (999999 + 1) 0 [.inr (.inr 23), .inl x1] σ := zM_eq (zat_X2_readLoop) rfl (Nat.le_of_ble_eq_true rfl)
set_option maxRecDepth 100000 in
theorem qX2_readAssignment_23_0 (d n : Nat) (σ : zS) (x1 : Int32) : zexec zc_X2_readAssignment zu_X2_readAssignment (zM d) (n + 1) 0 [.inr (.inr 23), .inl x1] σ = zbI (zM d mX6_value [.inr (.inr 3)] σ) (fun r1 s1 => zbI (zM d mX1_add [.inr (.inr 7), .inl 0, .inl r1] s1) (fun r2 s2 => zbV (zM d mX6_skip [.inr (.inr 3)] s2) (fun s3 => zbI (zM d mX6_take [.inr (.inr 3), .inl 61] s3) (fun r4 s4 => if r4 = 0 then (some (1, 0, s4)) else (zbI (zM d mX6_kind [.inr (.inr 3)] s4) (fun r5 s5 => if r5 = 4 then (zbI (zM d mX6_value [.inr (.inr 3)] s5) (fun r6 s6 => if r6 = 9 then (some (1, 0, s6)) else (zbV (zM d mX1_setSort [.inr (.inr 7), .inl r2, .inl r6] s6) (fun s7 => zbV (zM d mX6_skip [.inr (.inr 3)] s7) (fun s8 => zbI (zM d mX2_readRest [.inr (.inr 23), .inl r6, .inl r2, .inl x1] s8) (fun r9 s9 => if r9 = 0 ∨ r9 = 1 then (some (1, r9, s9)) else (none))))))) else (zbI (zM d mX2_readX [.inr (.inr 23), .inl x1] s5) (fun r10 s10 => if r10 = 0 ∨ r10 = 1 then (some (1, r10, s10)) else (none))))))))) := ze rfl rfl rfl (zx rfl rfl (y2 rfl (zx rfl rfl (y14 (v := .inr (.inr 7)) rfl (zx rfl rfl (y0 (zx rfl rfl (y2 rfl (zx rfl rfl (y14 (v := .inr (.inr 3)) rfl (zx rfl rfl (y18 (r := [.inl 0, .inr (.inr 7)]) rfl rfl rfl rfl rfl (fun r1 s1 => zx rfl rfl (y18 (r := []) rfl rfl rfl rfl rfl (fun r2 s2 => zx rfl rfl (y4 rfl (zx rfl rfl (y2 rfl (zx rfl rfl (y14 (v := .inr (.inr 3)) rfl (zx rfl rfl (y30 (r := []) rfl rfl rfl rfl rfl (fun s3 => zx rfl rfl (y2 rfl (zx rfl rfl (y14 (v := .inr (.inr 3)) rfl (zx rfl rfl (y0 (zx rfl rfl (y18 (r := []) rfl rfl rfl rfl rfl (fun r4 s4 => zx rfl rfl (y32 (zx rfl rfl (y0 (zx rfl rfl (y19l (by decide))))) (zx rfl rfl (y2 rfl (zx rfl rfl (y14 (v := .inr (.inr 3)) rfl (zx rfl rfl (y18 (r := []) rfl rfl rfl rfl rfl (fun r5 s5 => zx rfl rfl (y0 (zx rfl rfl (y35 (zx rfl rfl (y2 rfl (zx rfl rfl (y14 (v := .inr (.inr 3)) rfl (zx rfl rfl (y18 (r := []) rfl rfl rfl rfl rfl (fun r6 s6 => zx rfl rfl (y4 rfl (zx rfl rfl (y1 rfl (zx rfl rfl (y0 (zx rfl rfl (y35 (zx rfl rfl (y0 (zx rfl rfl (y19l (by decide))))) (zx rfl rfl (y2 rfl (zx rfl rfl (y14 (v := .inr (.inr 7)) rfl (zx rfl rfl (y1 rfl (zx rfl rfl (y1 rfl (zx rfl rfl (y30 (r := []) rfl rfl rfl rfl rfl (fun s7 => zx rfl rfl (y2 rfl (zx rfl rfl (y14 (v := .inr (.inr 3)) rfl (zx rfl rfl (y30 (r := []) rfl rfl rfl rfl rfl (fun s8 => zx rfl rfl (y2 rfl (zx rfl rfl (y1 rfl (zx rfl rfl (y1 rfl (zx rfl rfl (y1 rfl (zx rfl rfl (y18 (r := []) rfl rfl rfl rfl rfl (fun r9 s9 => zx rfl rfl y19b))))))))))))))))))))))))))))))))))))))))) (zx rfl rfl (y2 rfl (zx rfl rfl (y1 rfl (zx rfl rfl (y18 (r := []) rfl rfl rfl rfl rfl (fun r10 s10 => zx rfl rfl y19b)))))))))))))))))))))))))))))))))))))))))))))))))
set_option maxRecDepth 100000 in
theorem qX2_readAssignment_23 (d : Nat) (σ : zS) (x1 : Int32) : zM (d + 1) mX2_readAssignment [.inr (.inr 23), .inl x1] σ = zexec zc_X2_readAssignment zu_X2_readAssignment (zM d) (999999 + 1) 0 [.inr (.inr 23), .inl x1] σ := zM_eq (zat_X2_readAssignment) rfl (Nat.le_of_ble_eq_true rfl)
set_option maxRecDepth 100000 in
theorem qX6_take_3_0 (d n : Nat) (σ : zS) (x1 : Int32) : zexec zc_X6_take zu_X6_take (zM d) (n + 1) 0 [.inr (.inr 3), .inl x1] σ = zbI (zM d mX6_kind [.inr (.inr 3)] σ) (fun r1 s1 => if r1 = x1 then (zbV (zM d mX6_skip [.inr (.inr 3)] s1) (fun s2 => some (1, 1, s2))) else (some (1, 0, s1))) := ze rfl rfl rfl (zx rfl rfl (y2 rfl (zx rfl rfl (y18 (r := []) rfl rfl rfl rfl rfl (fun r1 s1 => zx rfl rfl (y1 rfl (zx rfl rfl (y35 (zx rfl rfl (y0 (zx rfl rfl (y12 (zx rfl rfl (y4 rfl (zx rfl rfl (y1 rfl (zx rfl rfl ((y32 rfl rfl).trans (yel (by decide) (zx rfl rfl (y2 rfl (zx rfl rfl (y30 (r := []) rfl rfl rfl rfl rfl (fun s2 => zx rfl rfl (y1 rfl (zx rfl rfl (y19l (by decide)))))))))))))))))))) (zx rfl rfl (y0 (zx rfl rfl (y4 rfl (zx rfl rfl (y1 rfl (zx rfl rfl ((y32 rfl rfl).trans (yif (by decide) (zx rfl rfl (y1 rfl (zx rfl rfl (y19l (by decide))))))))))))))))))))))
set_option maxRecDepth 100000 in
theorem qX6_take_3 (d : Nat) (σ : zS) (x1 : Int32) : zM (d + 1) mX6_take [.inr (.inr 3), .inl x1] σ = zexec zc_X6_take zu_X6_take (zM d) (999999 + 1) 0 [.inr (.inr 3), .inl x1] σ := zM_eq (zat_X6_take) rfl (Nat.le_of_ble_eq_true rfl)
set_option maxRecDepth 100000 in
theorem qX6_isWord_3_0 (d n : Nat) (σ : zS) (x1 : Int32) : zexec zc_X6_isWord zu_X6_isWord (zM d) (n + 1) 0 [.inr (.inr 3), .inl x1] σ = zbI (zM d mX6_kind [.inr (.inr 3)] σ) (fun r1 s1 => if r1 = 4 then (zbI (zM d mX6_value [.inr (.inr 3)] s1) (fun r2 s2 => if r2 = x1 then (some (1, 1, s2)) else (some (1, 0, s2)))) else (some (1, 0, s1))) := ze rfl rfl rfl (zx rfl rfl (y2 rfl (zx rfl rfl (y18 (r := []) rfl rfl rfl rfl rfl (fun r1 s1 => zx rfl rfl (y0 (zx rfl rfl (y35 (zx rfl rfl (y2 rfl (zx rfl rfl (y18 (r := []) rfl rfl rfl rfl rfl (fun r2 s2 => zx rfl rfl (y1 rfl (zx rfl rfl (y35 (zx rfl rfl (y0 (zx rfl rfl (y12 (zx rfl rfl (y19l (by decide))))))) (zx rfl rfl (y0 (zx rfl rfl (y19l (by decide))))))))))))) (zx rfl rfl (y0 (zx rfl rfl (y19l (by decide)))))))))))))
set_option maxRecDepth 100000 in
theorem qX6_isWord_3 (d : Nat) (σ : zS) (x1 : Int32) : zM (d + 1) mX6_isWord [.inr (.inr 3), .inl x1] σ = zexec zc_X6_isWord zu_X6_isWord (zM d) (999999 + 1) 0 [.inr (.inr 3), .inl x1] σ := zM_eq (zat_X6_isWord) rfl (Nat.le_of_ble_eq_true rfl)
set_option maxRecDepth 100000 in
theorem qX2_readStop_23_0 (d n : Nat) (σ : zS) (x1 : Int32) : zexec zc_X2_readStop zu_X2_readStop (zM d) (n + 1) 0 [.inr (.inr 23), .inl x1] σ = zbI (zM d mX1_add [.inr (.inr 7), .inl 9, .inl 0] σ) (fun r1 s1 => zbV (zM d mX6_skip [.inr (.inr 3)] s1) (fun s2 => zbI (zM d mX2_readX [.inr (.inr 23), .inl x1] s2) (fun r3 s3 => if r3 = 0 ∨ r3 = 1 then (some (1, r3, s3)) else (none)))) := ze rfl rfl rfl (zx rfl rfl (y2 rfl (zx rfl rfl (y14 (v := .inr (.inr 7)) rfl (zx rfl rfl (y0 (zx rfl rfl (y0 (zx rfl rfl (y18 (r := []) rfl rfl rfl rfl rfl (fun r1 s1 => zx rfl rfl (y22 rfl (zx rfl rfl (y2 rfl (zx rfl rfl (y14 (v := .inr (.inr 3)) rfl (zx rfl rfl (y30 (r := []) rfl rfl rfl rfl rfl (fun s2 => zx rfl rfl (y2 rfl (zx rfl rfl (y1 rfl (zx rfl rfl (y18 (r := []) rfl rfl rfl rfl rfl (fun r3 s3 => zx rfl rfl y19b)))))))))))))))))))))))))
set_option maxRecDepth 100000 in
theorem qX2_readStop_23 (d : Nat) (σ : zS) (x1 : Int32) : zM (d + 1) mX2_readStop [.inr (.inr 23), .inl x1] σ = zexec zc_X2_readStop zu_X2_readStop (zM d) (999999 + 1) 0 [.inr (.inr 23), .inl x1] σ := zM_eq (zat_X2_readStop) rfl (Nat.le_of_ble_eq_true rfl)
set_option maxRecDepth 100000 in
theorem qX1_holds_15_0 (d n : Nat) (σ : zS) (x1 : Int32) : zexec zc_X1_holds zu_X1_holds (zM d) (n + 1) 0 [.inr (.inr 15), .inl x1] σ = if x1 < 0 then (some (1, 0, σ)) else (if x1 < (σ 15 7) then (some (1, 1, σ)) else (some (1, 0, σ))) := ze rfl rfl rfl (zx rfl rfl (y1 rfl (zx rfl rfl (y33 (zx rfl rfl (y0 (zx rfl rfl (y19l (by decide))))) (zx rfl rfl (y1 rfl (zx rfl rfl (y2 rfl (zx rfl rfl (y14 (v := .inl (σ 15 7)) rfl (zx rfl rfl (y36 (zx rfl rfl (y0 (zx rfl rfl (y12 (zx rfl rfl (y19l (by decide))))))) (zx rfl rfl (y0 (zx rfl rfl (y19l (by decide)))))))))))))))))
set_option maxRecDepth 100000 in
theorem qX1_holds_15 (d : Nat) (σ : zS) (x1 : Int32) : zM (d + 1) mX1_holds [.inr (.inr 15), .inl x1] σ = zexec zc_X1_holds zu_X1_holds (zM d) (999999 + 1) 0 [.inr (.inr 15), .inl x1] σ := zM_eq (zat_X1_holds) rfl (Nat.le_of_ble_eq_true rfl)
set_option maxRecDepth 100000 in
theorem qX4_workOut_34_0 (d n : Nat) (σ : zS) : zexec zc_X4_workOut zu_X4_workOut (zM d) (n + 1) 0 [.inr (.inr 34)] σ = zbI (zM d mX1_itemEnd [.inr (.inr 15), .inl (σ 30 1)] σ) (fun r1 s1 => zbI (zM d mX1_firstItem [.inr (.inr 15), .inl (s1 30 1)] (wr s1 34 5 0)) (fun r2 s2 => zexec zc_X4_workOut zu_X4_workOut (zM d) n 35 [.inr (.inr 34), .inl r1, .inl r2] s2)) := ze rfl rfl rfl (zx rfl rfl (y2 rfl (zx rfl rfl (y14 (v := .inr (.inr 15)) rfl (zx rfl rfl (y2 rfl (zx rfl rfl (y14 (v := .inr (.inr 30)) rfl (zx rfl rfl (y14 (v := .inl (σ 30 1)) rfl (zx rfl rfl (y18 (r := []) rfl rfl rfl rfl rfl (fun r1 s1 => zx rfl rfl (y4 rfl (zx rfl rfl (y2 rfl (zx rfl rfl (y0 (zx rfl rfl (y15 rfl (zx rfl rfl (y2 rfl (zx rfl rfl (y14 (v := .inr (.inr 15)) rfl (zx rfl rfl (y2 rfl (zx rfl rfl (y14 (v := .inr (.inr 30)) rfl (zx rfl rfl (y14 (v := .inl (s1 30 1)) rfl (zx rfl rfl (y18 (r := []) rfl rfl rfl rfl rfl (fun r2 s2 => zx rfl rfl (y4 rfl (zxc rfl rfl rfl rfl)))))))))))))))))))))))))))))))))))
set_option maxRecDepth 100000 in
theorem qX4_workOut_34 (d : Nat) (σ : zS) : zM (d + 1) mX4_workOut [.inr (.inr 34)] σ = zexec zc_X4_workOut zu_X4_workOut (zM d) (999999 + 1) 0 [.inr (.inr 34)] σ := zM_eq (zat_X4_workOut) rfl (Nat.le_of_ble_eq_true rfl)
set_option maxRecDepth 100000 in
theorem qX4_workOut_34_35 (d n : Nat) (σ : zS) (x1 x2 : Int32) : zexec zc_X4_workOut zu_X4_workOut (zM d) (n + 1) 35 [.inr (.inr 34), .inl x1, .inl x2] σ = if x2 < x1 then (zbI (zM d mX1_itemSort [.inr (.inr 15), .inl x2] σ) (fun r1 s1 => zbI (zM d mX1_itemValue [.inr (.inr 15), .inl x2] s1) (fun r2 s2 => zbV (zM d mX4_work [.inr (.inr 34), .inl r1, .inl r2] s2) (fun s3 => zexec zc_X4_workOut zu_X4_workOut (zM d) n 35 [.inr (.inr 34), .inl x1, .inl (x2 + 1)] s3)))) else (zbI (zM d mX4_pop [.inr (.inr 34)] σ) (fun r4 s4 => some (1, r4, s4))) := ze rfl rfl rfl (zx rfl rfl (y1 rfl (zx rfl rfl (y1 rfl (zx rfl rfl (y36 (zx rfl rfl (y2 rfl (zx rfl rfl (y2 rfl (zx rfl rfl (y14 (v := .inr (.inr 15)) rfl (zx rfl rfl (y1 rfl (zx rfl rfl (y18 (r := [.inr (.inr 34)]) rfl rfl rfl rfl rfl (fun r1 s1 => zx rfl rfl (y2 rfl (zx rfl rfl (y14 (v := .inr (.inr 15)) rfl (zx rfl rfl (y1 rfl (zx rfl rfl (y18 (r := [.inl r1, .inr (.inr 34)]) rfl rfl rfl rfl rfl (fun r2 s2 => zx rfl rfl (y30 (r := []) rfl rfl rfl rfl rfl (fun s3 => zx rfl rfl (y6 rfl rfl (zx rfl rfl (y12 (zxc rfl rfl rfl rfl))))))))))))))))))))))))) (zx rfl rfl (y2 rfl (zx rfl rfl (y18 (r := []) rfl rfl rfl rfl rfl (fun r4 s4 => zx rfl rfl y19)))))))))))
set_option maxRecDepth 100000 in
theorem qX4_finish_34_0 (d n : Nat) (σ : zS) (x1 : Int32) : zexec zc_X4_finish zu_X4_finish (zM d) (n + 1) 0 [.inr (.inr 34), .inl x1] σ = zbI (zM d mX1_targetAt [.inr (.inr 15), .inl (σ 30 1)] σ) (fun r1 s1 => zbV (zM d mX3_set [.inr (.inr 30), .inl r1, .inl x1] s1) (fun s2 => some (0, 0, wr s2 30 1 ((s2 30 1) + 1)))) := ze rfl rfl rfl (zx rfl rfl (y2 rfl (zx rfl rfl (y14 (v := .inr (.inr 30)) rfl (zx rfl rfl (y2 rfl (zx rfl rfl (y14 (v := .inr (.inr 15)) rfl (zx rfl rfl (y2 rfl (zx rfl rfl (y14 (v := .inr (.inr 30)) rfl (zx rfl rfl (y14 (v := .inl (σ 30 1)) rfl (zx rfl rfl (y18 (r := [.inr (.inr 30)]) rfl rfl rfl rfl rfl (fun r1 s1 => zx rfl rfl (y1 rfl (zx rfl rfl (y30 (r := []) rfl rfl rfl rfl rfl (fun s2 => zx rfl rfl (y2 rfl (zx rfl rfl (y14 (v := .inr (.inr 30)) rfl (zx rfl rfl (y21 rfl (zx rfl rfl (y14 (v := .inl (s2 30 1)) rfl (zx rfl rfl (y0 (zx rfl rfl (y7 (v := (s2 30 1) + 1) rfl (zx rfl rfl (y15 rfl (zx rfl rfl y20)))))))))))))))))))))))))))))))))))
set_option maxRecDepth 100000 in
theorem qX4_finish_34 (d : Nat) (σ : zS) (x1 : Int32) : zM (d + 1) mX4_finish [.inr (.inr 34), .inl x1] σ = zexec zc_X4_finish zu_X4_finish (zM d) (999999 + 1) 0 [.inr (.inr 34), .inl x1] σ := zM_eq (zat_X4_finish) rfl (Nat.le_of_ble_eq_true rfl)
set_option maxRecDepth 100000 in
theorem qX4_order_34_0 (d n : Nat) (σ : zS) (x1 x2 x3 : Int32) : zexec zc_X4_order zu_X4_order (zM d) (n + 1) 0 [.inr (.inr 34), .inl x1, .inl x2, .inl x3] σ = zbI (zM d mX4_want [.inr (.inr 34), .inl x1, .inl x2, .inl x3] σ) (fun r1 s1 => if r1 = 0 then (some (0, 0, s1)) else (zbV (zM d mX4_finish [.inr (.inr 34), .inl (σ 34 7)] s1) (fun s2 => some (0, 0, s2)))) := ze rfl rfl rfl (zx rfl rfl (y2 rfl (zx rfl rfl (y14 (v := .inl (σ 34 7)) rfl (zx rfl rfl (y4 rfl (zx rfl rfl (y2 rfl (zx rfl rfl (y1 rfl (zx rfl rfl (y1 rfl (zx rfl rfl (y1 rfl (zx rfl rfl (y18 (r := []) rfl rfl rfl rfl rfl (fun r1 s1 => zx rfl rfl (y32 (zx rfl rfl y20) (zx rfl rfl (y2 rfl (zx rfl rfl (y1 rfl (zx rfl rfl (y30 (r := []) rfl rfl rfl rfl rfl (fun s2 => zx rfl rfl y20)))))))))))))))))))))))))
set_option maxRecDepth 100000 in
theorem qX4_order_34 (d : Nat) (σ : zS) (x1 x2 x3 : Int32) : zM (d + 1) mX4_order [.inr (.inr 34), .inl x1, .inl x2, .inl x3] σ = zexec zc_X4_order zu_X4_order (zM d) (999999 + 1) 0 [.inr (.inr 34), .inl x1, .inl x2, .inl x3] σ := zM_eq (zat_X4_order) rfl (Nat.le_of_ble_eq_true rfl)
set_option maxRecDepth 100000 in
theorem qX3_get_30_0 (d n : Nat) (σ : zS) (x1 : Int32) : zexec zc_X3_get zu_X3_get (zM d) (n + 1) 0 [.inr (.inr 30), .inl x1] σ = if x1 < 0 then (some (1, 0, σ)) else (if x1 < 8 then (if x1 < 0 ∨ 8 ≤ x1.toNatClampNeg then (none) else (some (1, σ 31 x1.toNatClampNeg, σ))) else (some (1, 0, σ))) := ze rfl rfl rfl (zx rfl rfl (y1 rfl (zx rfl rfl (y33 (zx rfl rfl (y0 (zx rfl rfl y19))) (zx rfl rfl (y1 rfl (zx rfl rfl (y0 (zx rfl rfl (y36 (zx rfl rfl (y2 rfl (zx rfl rfl (y14 (v := .inr (.inr 31)) rfl (zx rfl rfl (y1 rfl (zx rfl rfl (y16 (v := σ 31 x1.toNatClampNeg) rfl rfl (zx rfl rfl (y12 (zx rfl rfl y19))))))))))) (zx rfl rfl (y0 (zx rfl rfl y19)))))))))))))
set_option maxRecDepth 100000 in
theorem qX3_get_30 (d : Nat) (σ : zS) (x1 : Int32) : zM (d + 1) mX3_get [.inr (.inr 30), .inl x1] σ = zexec zc_X3_get zu_X3_get (zM d) (999999 + 1) 0 [.inr (.inr 30), .inl x1] σ := zM_eq (zat_X3_get) rfl (Nat.le_of_ble_eq_true rfl)
set_option maxRecDepth 100000 in
theorem qX4_waitFor_34_0 (d n : Nat) (σ : zS) (x1 : Int32) : zexec zc_X4_waitFor zu_X4_waitFor (zM d) (n + 1) 0 [.inr (.inr 34), .inl x1] σ = zbI (zM d mX4_endOf [.inr (.inr 34), .inl x1] σ) (fun r1 s1 => if r1 = (-1) then (some (0, 0, wr s1 34 10 1)) else (if r1 = (-2) then (zbV (zM d mX4_finish [.inr (.inr 34), .inl (-2)] s1) (fun s2 => some (0, 0, s2))) else (zbI (zM d mX0_kindAt [.inr (.inr 24), .inl r1] s1) (fun r3 s3 => if r3 = 6 then (zbV (zM d mX4_finish [.inr (.inr 34), .inl (-1)] s3) (fun s4 => some (0, 0, s4))) else (zbI (zM d mX0_valueAt [.inr (.inr 24), .inl r1] s3) (fun r5 s5 => zbV (zM d mX4_finish [.inr (.inr 34), .inl r5] s5) (fun s6 => some (0, 0, s6)))))))) := ze rfl rfl rfl (zx rfl rfl (y2 rfl (zx rfl rfl (y1 rfl (zx rfl rfl (y18 (r := []) rfl rfl rfl rfl rfl (fun r1 s1 => zx rfl rfl (y4 rfl (zx rfl rfl (y1 rfl (zx rfl rfl (y0 (zx rfl rfl (y35 (zx rfl rfl (y2 rfl (zx rfl rfl (y0 (zx rfl rfl (y31l rfl (by decide) (zx rfl rfl (y12 (zx rfl rfl y20))))))))) (zx rfl rfl (y1 rfl (zx rfl rfl (y0 (zx rfl rfl (y35 (zx rfl rfl (y2 rfl (zx rfl rfl (y0 (zx rfl rfl (y30 (r := []) rfl rfl rfl rfl rfl (fun s2 => zx rfl rfl (y12 (zx rfl rfl y20))))))))) (zx rfl rfl (y2 rfl (zx rfl rfl (y2 rfl (zx rfl rfl (y14 (v := .inr (.inr 24)) rfl (zx rfl rfl (y1 rfl (zx rfl rfl (y18 (r := [.inr (.inr 34)]) rfl rfl rfl rfl rfl (fun r3 s3 => zx rfl rfl (y0 (zx rfl rfl (y35 (zx rfl rfl (y0 (zx rfl rfl (y12 (zx rfl rfl (y30 (r := []) rfl rfl rfl rfl rfl (fun s4 => zx rfl rfl y20))))))) (zx rfl rfl (y2 rfl (zx rfl rfl (y14 (v := .inr (.inr 24)) rfl (zx rfl rfl (y1 rfl (zx rfl rfl (y18 (r := [.inr (.inr 34)]) rfl rfl rfl rfl rfl (fun r5 s5 => zx rfl rfl (y30 (r := []) rfl rfl rfl rfl rfl (fun s6 => zx rfl rfl y20)))))))))))))))))))))))))))))))))))))))))))))
set_option maxRecDepth 100000 in
theorem qX4_waitFor_34 (d : Nat) (σ : zS) (x1 : Int32) : zM (d + 1) mX4_waitFor [.inr (.inr 34), .inl x1] σ = zexec zc_X4_waitFor zu_X4_waitFor (zM d) (999999 + 1) 0 [.inr (.inr 34), .inl x1] σ := zM_eq (zat_X4_waitFor) rfl (Nat.le_of_ble_eq_true rfl)
set_option maxRecDepth 100000 in
theorem qX1_secondAt_15_0 (d n : Nat) (σ : zS) (x1 : Int32) : zexec zc_X1_secondAt zu_X1_secondAt (zM d) (n + 1) 0 [.inr (.inr 15), .inl x1] σ = zbI (zM d mX1_holds [.inr (.inr 15), .inl x1] σ) (fun r1 s1 => if r1 = 0 then (some (1, 0, s1)) else (if x1 < 0 ∨ 200 ≤ x1.toNatClampNeg then (none) else (some (1, s1 19 x1.toNatClampNeg, s1)))) := ze rfl rfl rfl (zx rfl rfl (y2 rfl (zx rfl rfl (y1 rfl (zx rfl rfl (y18 (r := []) rfl rfl rfl rfl rfl (fun r1 s1 => zx rfl rfl (y32 (zx rfl rfl (y0 (zx rfl rfl y19))) (zx rfl rfl (y2 rfl (zx rfl rfl (y14 (v := .inr (.inr 19)) rfl (zx rfl rfl (y1 rfl (zx rfl rfl (y16 (v := s1 19 x1.toNatClampNeg) rfl rfl (zx rfl rfl (y12 (zx rfl rfl y19)))))))))))))))))))
set_option maxRecDepth 100000 in
theorem qX1_secondAt_15 (d : Nat) (σ : zS) (x1 : Int32) : zM (d + 1) mX1_secondAt [.inr (.inr 15), .inl x1] σ = zexec zc_X1_secondAt zu_X1_secondAt (zM d) (999999 + 1) 0 [.inr (.inr 15), .inl x1] σ := zM_eq (zat_X1_secondAt) rfl (Nat.le_of_ble_eq_true rfl)
set_option maxRecDepth 100000 in
theorem qX4_waitForAny_34_0 (d n : Nat) (σ : zS) (x1 x2 : Int32) : zexec zc_X4_waitForAny zu_X4_waitForAny (zM d) (n + 1) 0 [.inr (.inr 34), .inl x1, .inl x2] σ = zbI (zM d mX4_endOf [.inr (.inr 34), .inl x1] σ) (fun r1 s1 => if r1 = (-1) then (zbI (zM d mX4_endOf [.inr (.inr 34), .inl x2] s1) (fun r2 s2 => if r2 = (-1) then (some (0, 0, wr s2 34 10 1)) else (zbV (zM d mX4_finish [.inr (.inr 34), .inl 2] s2) (fun s3 => some (0, 0, s3))))) else (zbV (zM d mX4_finish [.inr (.inr 34), .inl 1] s1) (fun s4 => some (0, 0, s4)))) := ze rfl rfl rfl (zx rfl rfl (y2 rfl (zx rfl rfl (y1 rfl (zx rfl rfl (y18 (r := []) rfl rfl rfl rfl rfl (fun r1 s1 => zx rfl rfl (y0 (zx rfl rfl (y35 (zx rfl rfl (y2 rfl (zx rfl rfl (y1 rfl (zx rfl rfl (y18 (r := []) rfl rfl rfl rfl rfl (fun r2 s2 => zx rfl rfl (y0 (zx rfl rfl (y35 (zx rfl rfl (y2 rfl (zx rfl rfl (y0 (zx rfl rfl (y31l rfl (by decide) (zx rfl rfl y20))))))) (zx rfl rfl (y2 rfl (zx rfl rfl (y0 (zx rfl rfl (y30 (r := []) rfl rfl rfl rfl rfl (fun s3 => zx rfl rfl (y12 (zx rfl rfl y20))))))))))))))))))) (zx rfl rfl (y2 rfl (zx rfl rfl (y0 (zx rfl rfl (y30 (r := []) rfl rfl rfl rfl rfl (fun s4 => zx rfl rfl (y12 (zx rfl rfl y20)))))))))))))))))))
set_option maxRecDepth 100000 in
theorem qX4_waitForAny_34 (d : Nat) (σ : zS) (x1 x2 : Int32) : zM (d + 1) mX4_waitForAny [.inr (.inr 34), .inl x1, .inl x2] σ = zexec zc_X4_waitForAny zu_X4_waitForAny (zM d) (999999 + 1) 0 [.inr (.inr 34), .inl x1, .inl x2] σ := zM_eq (zat_X4_waitForAny) rfl (Nat.le_of_ble_eq_true rfl)
set_option maxRecDepth 100000 in
theorem qX4_endOf_34_0 (d n : Nat) (σ : zS) (x1 : Int32) : zexec zc_X4_endOf zu_X4_endOf (zM d) (n + 1) 0 [.inr (.inr 34), .inl x1] σ = zbI (zM d mX0_kindAt [.inr (.inr 24), .inl x1] σ) (fun r1 s1 => if x1 < (s1 34 7) then (if r1 = 1 then (zbI (zM d mX0_endOf [.inr (.inr 24), .inl x1, .inl (s1 34 6)] s1) (fun r2 s2 => some (1, r2, s2))) else (if r1 = 2 then (zbI (zM d mX0_endOf [.inr (.inr 24), .inl x1, .inl (s1 34 6)] s1) (fun r3 s3 => some (1, r3, s3))) else (some (1, (-2), s1)))) else (some (1, (-2), s1))) := ze rfl rfl rfl (zx rfl rfl (y2 rfl (zx rfl rfl (y14 (v := .inr (.inr 24)) rfl (zx rfl rfl (y1 rfl (zx rfl rfl (y18 (r := []) rfl rfl rfl rfl rfl (fun r1 s1 => zx rfl rfl (y4 rfl (zx rfl rfl (y1 rfl (zx rfl rfl (y2 rfl (zx rfl rfl (y14 (v := .inl (s1 34 7)) rfl (zx rfl rfl (y36 (zx rfl rfl (y1 rfl (zx rfl rfl (y0 (zx rfl rfl (y35 (zx rfl rfl (y2 rfl (zx rfl rfl (y14 (v := .inr (.inr 24)) rfl (zx rfl rfl (y1 rfl (zx rfl rfl (y2 rfl (zx rfl rfl (y14 (v := .inl (s1 34 6)) rfl (zx rfl rfl (y18 (r := []) rfl rfl rfl rfl rfl (fun r2 s2 => zx rfl rfl y19))))))))))))) (zx rfl rfl (y1 rfl (zx rfl rfl (y0 (zx rfl rfl (y35 (zx rfl rfl (y2 rfl (zx rfl rfl (y14 (v := .inr (.inr 24)) rfl (zx rfl rfl (y1 rfl (zx rfl rfl (y2 rfl (zx rfl rfl (y14 (v := .inl (s1 34 6)) rfl (zx rfl rfl (y18 (r := []) rfl rfl rfl rfl rfl (fun r3 s3 => zx rfl rfl y19))))))))))))) (zx rfl rfl (y0 (zx rfl rfl y19))))))))))))))) (zx rfl rfl (y0 (zx rfl rfl y19)))))))))))))))))))))
set_option maxRecDepth 100000 in
theorem qX4_endOf_34 (d : Nat) (σ : zS) (x1 : Int32) : zM (d + 1) mX4_endOf [.inr (.inr 34), .inl x1] σ = zexec zc_X4_endOf zu_X4_endOf (zM d) (999999 + 1) 0 [.inr (.inr 34), .inl x1] σ := zM_eq (zat_X4_endOf) rfl (Nat.le_of_ble_eq_true rfl)
set_option maxRecDepth 100000 in
theorem qX4_takeSignal_34_0 (d n : Nat) (σ : zS) : zexec zc_X4_takeSignal zu_X4_takeSignal (zM d) (n + 1) 0 [.inr (.inr 34)] σ = zbI (zM d mX0_signal [.inr (.inr 24), .inl (σ 30 2), .inl (σ 34 6)] σ) (fun r1 s1 => if r1 = (-1) then (some (0, 0, wr s1 34 10 1)) else (zbI (zM d mX0_valueAt [.inr (.inr 24), .inl r1] (wr s1 30 2 ((s1 30 2) + 1))) (fun r2 s2 => zbV (zM d mX4_finish [.inr (.inr 34), .inl r2] s2) (fun s3 => some (0, 0, s3))))) := ze rfl rfl rfl (zx rfl rfl (y2 rfl (zx rfl rfl (y14 (v := .inr (.inr 24)) rfl (zx rfl rfl (y2 rfl (zx rfl rfl (y14 (v := .inr (.inr 30)) rfl (zx rfl rfl (y14 (v := .inl (σ 30 2)) rfl (zx rfl rfl (y2 rfl (zx rfl rfl (y14 (v := .inl (σ 34 6)) rfl (zx rfl rfl (y18 (r := []) rfl rfl rfl rfl rfl (fun r1 s1 => zx rfl rfl (y4 rfl (zx rfl rfl (y1 rfl (zx rfl rfl (y0 (zx rfl rfl (y35 (zx rfl rfl (y2 rfl (zx rfl rfl (y0 (zx rfl rfl (y31l rfl (by decide) (zx rfl rfl (y12 (zx rfl rfl y20))))))))) (zx rfl rfl (y2 rfl (zx rfl rfl (y14 (v := .inr (.inr 30)) rfl (zx rfl rfl (y21 rfl (zx rfl rfl (y14 (v := .inl (s1 30 2)) rfl (zx rfl rfl (y0 (zx rfl rfl (y7 (v := (s1 30 2) + 1) rfl (zx rfl rfl (y15 rfl (zx rfl rfl (y2 rfl (zx rfl rfl (y2 rfl (zx rfl rfl (y14 (v := .inr (.inr 24)) rfl (zx rfl rfl (y1 rfl (zx rfl rfl (y18 (r := [.inr (.inr 34)]) rfl rfl rfl rfl rfl (fun r2 s2 => zx rfl rfl (y30 (r := []) rfl rfl rfl rfl rfl (fun s3 => zx rfl rfl y20)))))))))))))))))))))))))))))))))))))))))))))))))))
set_option maxRecDepth 100000 in
theorem qX4_takeSignal_34 (d : Nat) (σ : zS) : zM (d + 1) mX4_takeSignal [.inr (.inr 34)] σ = zexec zc_X4_takeSignal zu_X4_takeSignal (zM d) (999999 + 1) 0 [.inr (.inr 34)] σ := zM_eq (zat_X4_takeSignal) rfl (Nat.le_of_ble_eq_true rfl)
set_option maxRecDepth 100000 in
theorem qX4_patch_34_0 (d n : Nat) (σ : zS) (x1 : Int32) : zexec zc_X4_patch zu_X4_patch (zM d) (n + 1) 0 [.inr (.inr 34), .inl x1] σ = if (σ 34 7) < (σ 34 8) then (zbI (zM d mX0_isAt [.inr (.inr 24), .inl (σ 34 7), .inl 3, .inl x1, .inl 0] σ) (fun r1 s1 => if r1 = 0 then (if (s1 34 9) = 0 then (zbV (zM d mX4_finish [.inr (.inr 34), .inl 0] s1) (fun s2 => some (0, 0, s2))) else (zbI (zM d mX4_want [.inr (.inr 34), .inl 3, .inl x1, .inl 0] s1) (fun r3 s3 => if r3 = 0 then (some (0, 0, s3)) else (zbV (zM d mX4_finish [.inr (.inr 34), .inl 1] s3) (fun s4 => some (0, 0, s4)))))) else (if (s1 34 9) = 0 then (zbI (zM d mX4_want [.inr (.inr 34), .inl 3, .inl x1, .inl 0] s1) (fun r5 s5 => if r5 = 0 then (some (0, 0, s5)) else (zbV (zM d mX4_finish [.inr (.inr 34), .inl 1] s5) (fun s6 => some (0, 0, s6))))) else (zbI (zM d mX4_want [.inr (.inr 34), .inl 3, .inl x1, .inl 0] s1) (fun r7 s7 => if r7 = 0 then (some (0, 0, s7)) else (zbV (zM d mX4_finish [.inr (.inr 34), .inl 1] s7) (fun s8 => some (0, 0, s8)))))))) else (if (σ 34 9) = 0 then (zbV (zM d mX4_finish [.inr (.inr 34), .inl 0] σ) (fun s9 => some (0, 0, s9))) else (zbI (zM d mX4_want [.inr (.inr 34), .inl 3, .inl x1, .inl 0] σ) (fun r10 s10 => if r10 = 0 then (some (0, 0, s10)) else (zbV (zM d mX4_finish [.inr (.inr 34), .inl 1] s10) (fun s11 => some (0, 0, s11)))))) := ze rfl rfl rfl (zx rfl rfl (y2 rfl (zx rfl rfl (y14 (v := .inl (σ 34 7)) rfl (zx rfl rfl (y2 rfl (zx rfl rfl (y14 (v := .inl (σ 34 8)) rfl (zx rfl rfl (y36 (zx rfl rfl (y2 rfl (zx rfl rfl (y14 (v := .inr (.inr 24)) rfl (zx rfl rfl (y2 rfl (zx rfl rfl (y14 (v := .inl (σ 34 7)) rfl (zx rfl rfl (y0 (zx rfl rfl (y1 rfl (zx rfl rfl (y0 (zx rfl rfl (y18 (r := []) rfl rfl rfl rfl rfl (fun r1 s1 => zx rfl rfl (y32 (zx rfl rfl (y0 (zx rfl rfl (y4 rfl (zx rfl rfl (y2 rfl (zx rfl rfl (y14 (v := .inl (s1 34 9)) rfl (zx rfl rfl (y32 (zx rfl rfl (y1 rfl (zx rfl rfl ((y32 rfl rfl).trans (yif (by decide) (zx rfl rfl (y2 rfl (zx rfl rfl (y0 (zx rfl rfl (y30 (r := []) rfl rfl rfl rfl rfl (fun s2 => zx rfl rfl (y12 (zx rfl rfl y20)))))))))))))) (zx rfl rfl (y2 rfl (zx rfl rfl (y0 (zx rfl rfl (y1 rfl (zx rfl rfl (y0 (zx rfl rfl (y18 (r := []) rfl rfl rfl rfl rfl (fun r3 s3 => zx rfl rfl (y32 (zx rfl rfl y20) (zx rfl rfl (y2 rfl (zx rfl rfl (y0 (zx rfl rfl (y30 (r := []) rfl rfl rfl rfl rfl (fun s4 => zx rfl rfl y20))))))))))))))))))))))))))))) (zx rfl rfl (y0 (zx rfl rfl (y12 (zx rfl rfl (y4 rfl (zx rfl rfl (y2 rfl (zx rfl rfl (y14 (v := .inl (s1 34 9)) rfl (zx rfl rfl (y32 (zx rfl rfl (y1 rfl (zx rfl rfl ((y32 rfl rfl).trans (yel (by decide) (zx rfl rfl (y2 rfl (zx rfl rfl (y0 (zx rfl rfl (y1 rfl (zx rfl rfl (y0 (zx rfl rfl (y18 (r := []) rfl rfl rfl rfl rfl (fun r5 s5 => zx rfl rfl (y32 (zx rfl rfl y20) (zx rfl rfl (y2 rfl (zx rfl rfl (y0 (zx rfl rfl (y30 (r := []) rfl rfl rfl rfl rfl (fun s6 => zx rfl rfl y20)))))))))))))))))))))))) (zx rfl rfl (y2 rfl (zx rfl rfl (y0 (zx rfl rfl (y1 rfl (zx rfl rfl (y0 (zx rfl rfl (y18 (r := []) rfl rfl rfl rfl rfl (fun r7 s7 => zx rfl rfl (y32 (zx rfl rfl y20) (zx rfl rfl (y2 rfl (zx rfl rfl (y0 (zx rfl rfl (y30 (r := []) rfl rfl rfl rfl rfl (fun s8 => zx rfl rfl y20))))))))))))))))))))))))))))))))))))))))))))))))) (zx rfl rfl (y0 (zx rfl rfl (y4 rfl (zx rfl rfl (y2 rfl (zx rfl rfl (y14 (v := .inl (σ 34 9)) rfl (zx rfl rfl (y32 (zx rfl rfl (y1 rfl (zx rfl rfl ((y32 rfl rfl).trans (yif (by decide) (zx rfl rfl (y2 rfl (zx rfl rfl (y0 (zx rfl rfl (y30 (r := []) rfl rfl rfl rfl rfl (fun s9 => zx rfl rfl (y12 (zx rfl rfl y20)))))))))))))) (zx rfl rfl (y2 rfl (zx rfl rfl (y0 (zx rfl rfl (y1 rfl (zx rfl rfl (y0 (zx rfl rfl (y18 (r := []) rfl rfl rfl rfl rfl (fun r10 s10 => zx rfl rfl (y32 (zx rfl rfl y20) (zx rfl rfl (y2 rfl (zx rfl rfl (y0 (zx rfl rfl (y30 (r := []) rfl rfl rfl rfl rfl (fun s11 => zx rfl rfl y20)))))))))))))))))))))))))))))))))))))))
set_option maxRecDepth 100000 in
theorem qX4_patch_34 (d : Nat) (σ : zS) (x1 : Int32) : zM (d + 1) mX4_patch [.inr (.inr 34), .inl x1] σ = zexec zc_X4_patch zu_X4_patch (zM d) (999999 + 1) 0 [.inr (.inr 34), .inl x1] σ := zM_eq (zat_X4_patch) rfl (Nat.le_of_ble_eq_true rfl)
set_option maxRecDepth 100000 in
theorem qX4_stop_34_0 (d n : Nat) (σ : zS) (x1 : Int32) : zexec zc_X4_stop zu_X4_stop (zM d) (n + 1) 0 [.inr (.inr 34), .inl x1] σ = zbI (zM d mX4_want [.inr (.inr 34), .inl 4, .inl 0, .inl x1] σ) (fun r1 s1 => if r1 = 0 then (some (0, 0, s1)) else (some (0, 0, wr s1 30 5 1))) := ze rfl rfl rfl (zx rfl rfl (y2 rfl (zx rfl rfl (y0 (zx rfl rfl (y0 (zx rfl rfl (y1 rfl (zx rfl rfl (y18 (r := []) rfl rfl rfl rfl rfl (fun r1 s1 => zx rfl rfl (y32 (zx rfl rfl y20) (zx rfl rfl (y2 rfl (zx rfl rfl (y14 (v := .inr (.inr 30)) rfl (zx rfl rfl (y0 (zx rfl rfl (y31l rfl (by decide) (zx rfl rfl y20)))))))))))))))))))))
set_option maxRecDepth 100000 in
theorem qX4_stop_34 (d : Nat) (σ : zS) (x1 : Int32) : zM (d + 1) mX4_stop [.inr (.inr 34), .inl x1] σ = zexec zc_X4_stop zu_X4_stop (zM d) (999999 + 1) 0 [.inr (.inr 34), .inl x1] σ := zM_eq (zat_X4_stop) rfl (Nat.le_of_ble_eq_true rfl)
set_option maxRecDepth 100000 in
theorem qX6_spells_1_1000_0 (d n : Nat) (σ : zS) (x1 x2 : Int32) : zexec zc_X6_spells zu_X6_spells (zM d) (n + 1) 0 [.inr (.inr 1), .inl x1, .inl x2, .inr (.inr 1000)] σ = if (x2 - x1) = 3 then (zexec zc_X6_spells zu_X6_spells (zM d) n 15 [.inr (.inr 1), .inl x1, .inr (.inr 1000), .inl 0] σ) else (some (1, 0, σ)) := ze rfl rfl rfl (zx rfl rfl (y1 rfl (zx rfl rfl (y1 rfl (zx rfl rfl (y7 (v := x2 - x1) rfl (zx rfl rfl (y2 rfl (zx rfl rfl (y280 (v := 3) rfl rfl rfl rfl (zx rfl rfl (y35 (zx rfl rfl (y0 (zx rfl rfl (y4 rfl (zxc rfl rfl rfl rfl))))) (zx rfl rfl (y0 (zx rfl rfl (y19l (by decide)))))))))))))))))
set_option maxRecDepth 100000 in
theorem qX6_spells_1_1000 (d : Nat) (σ : zS) (x1 x2 : Int32) : zM (d + 1) mX6_spells [.inr (.inr 1), .inl x1, .inl x2, .inr (.inr 1000)] σ = zexec zc_X6_spells zu_X6_spells (zM d) (999999 + 1) 0 [.inr (.inr 1), .inl x1, .inl x2, .inr (.inr 1000)] σ := zM_eq (zat_X6_spells) rfl (Nat.le_of_ble_eq_true rfl)
set_option maxRecDepth 100000 in
theorem qX6_spells_1_1000_15 (d n : Nat) (σ : zS) (x1 x4 : Int32) : zexec zc_X6_spells zu_X6_spells (zM d) (n + 1) 15 [.inr (.inr 1), .inl x1, .inr (.inr 1000), .inl x4] σ = if x4 < 3 then (zbI (zM d mX5_at [.inr (.inr 1), .inl (x1 + x4)] σ) (fun r1 s1 => if x4 < 0 ∨ 3 ≤ x4.toNatClampNeg then (none) else (if r1 = ((zstr 0).getD x4.toNatClampNeg 0) then (zexec zc_X6_spells zu_X6_spells (zM d) n 15 [.inr (.inr 1), .inl x1, .inr (.inr 1000), .inl (x4 + 1)] s1) else (some (1, 0, s1))))) else (some (1, 1, σ)) := ze rfl rfl rfl (zx rfl rfl (y1 rfl (zx rfl rfl (y2 rfl (zx rfl rfl (y280 (v := 3) rfl rfl rfl rfl (zx rfl rfl (y36 (zx rfl rfl (y2 rfl (zx rfl rfl (y1 rfl (zx rfl rfl (y1 rfl (zx rfl rfl (y7 (v := x1 + x4) rfl (zx rfl rfl (y18 (r := []) rfl rfl rfl rfl rfl (fun r1 s1 => zx rfl rfl (y2 rfl (zx rfl rfl (y1 rfl (zx rfl rfl (y281 (m := 3) (v := (zstr 0).getD x4.toNatClampNeg 0) rfl rfl rfl rfl rfl (zx rfl rfl (y35 (zx rfl rfl (y6 rfl rfl (zx rfl rfl (y12 (zxc rfl rfl rfl rfl))))) (zx rfl rfl (y0 (zx rfl rfl (y19l (by decide))))))))))))))))))))))) (zx rfl rfl (y0 (zx rfl rfl (y19l (by decide)))))))))))))
set_option maxRecDepth 100000 in
theorem qX6_spells_1_1001_0 (d n : Nat) (σ : zS) (x1 x2 : Int32) : zexec zc_X6_spells zu_X6_spells (zM d) (n + 1) 0 [.inr (.inr 1), .inl x1, .inl x2, .inr (.inr 1001)] σ = if (x2 - x1) = 5 then (zexec zc_X6_spells zu_X6_spells (zM d) n 15 [.inr (.inr 1), .inl x1, .inr (.inr 1001), .inl 0] σ) else (some (1, 0, σ)) := ze rfl rfl rfl (zx rfl rfl (y1 rfl (zx rfl rfl (y1 rfl (zx rfl rfl (y7 (v := x2 - x1) rfl (zx rfl rfl (y2 rfl (zx rfl rfl (y280 (v := 5) rfl rfl rfl rfl (zx rfl rfl (y35 (zx rfl rfl (y0 (zx rfl rfl (y4 rfl (zxc rfl rfl rfl rfl))))) (zx rfl rfl (y0 (zx rfl rfl (y19l (by decide)))))))))))))))))
set_option maxRecDepth 100000 in
theorem qX6_spells_1_1001 (d : Nat) (σ : zS) (x1 x2 : Int32) : zM (d + 1) mX6_spells [.inr (.inr 1), .inl x1, .inl x2, .inr (.inr 1001)] σ = zexec zc_X6_spells zu_X6_spells (zM d) (999999 + 1) 0 [.inr (.inr 1), .inl x1, .inl x2, .inr (.inr 1001)] σ := zM_eq (zat_X6_spells) rfl (Nat.le_of_ble_eq_true rfl)
set_option maxRecDepth 100000 in
theorem qX6_spells_1_1001_15 (d n : Nat) (σ : zS) (x1 x4 : Int32) : zexec zc_X6_spells zu_X6_spells (zM d) (n + 1) 15 [.inr (.inr 1), .inl x1, .inr (.inr 1001), .inl x4] σ = if x4 < 5 then (zbI (zM d mX5_at [.inr (.inr 1), .inl (x1 + x4)] σ) (fun r1 s1 => if x4 < 0 ∨ 5 ≤ x4.toNatClampNeg then (none) else (if r1 = ((zstr 1).getD x4.toNatClampNeg 0) then (zexec zc_X6_spells zu_X6_spells (zM d) n 15 [.inr (.inr 1), .inl x1, .inr (.inr 1001), .inl (x4 + 1)] s1) else (some (1, 0, s1))))) else (some (1, 1, σ)) := ze rfl rfl rfl (zx rfl rfl (y1 rfl (zx rfl rfl (y2 rfl (zx rfl rfl (y280 (v := 5) rfl rfl rfl rfl (zx rfl rfl (y36 (zx rfl rfl (y2 rfl (zx rfl rfl (y1 rfl (zx rfl rfl (y1 rfl (zx rfl rfl (y7 (v := x1 + x4) rfl (zx rfl rfl (y18 (r := []) rfl rfl rfl rfl rfl (fun r1 s1 => zx rfl rfl (y2 rfl (zx rfl rfl (y1 rfl (zx rfl rfl (y281 (m := 5) (v := (zstr 1).getD x4.toNatClampNeg 0) rfl rfl rfl rfl rfl (zx rfl rfl (y35 (zx rfl rfl (y6 rfl rfl (zx rfl rfl (y12 (zxc rfl rfl rfl rfl))))) (zx rfl rfl (y0 (zx rfl rfl (y19l (by decide))))))))))))))))))))))) (zx rfl rfl (y0 (zx rfl rfl (y19l (by decide)))))))))))))
set_option maxRecDepth 100000 in
theorem qX6_spells_1_1002_0 (d n : Nat) (σ : zS) (x1 x2 : Int32) : zexec zc_X6_spells zu_X6_spells (zM d) (n + 1) 0 [.inr (.inr 1), .inl x1, .inl x2, .inr (.inr 1002)] σ = if (x2 - x1) = 3 then (zexec zc_X6_spells zu_X6_spells (zM d) n 15 [.inr (.inr 1), .inl x1, .inr (.inr 1002), .inl 0] σ) else (some (1, 0, σ)) := ze rfl rfl rfl (zx rfl rfl (y1 rfl (zx rfl rfl (y1 rfl (zx rfl rfl (y7 (v := x2 - x1) rfl (zx rfl rfl (y2 rfl (zx rfl rfl (y280 (v := 3) rfl rfl rfl rfl (zx rfl rfl (y35 (zx rfl rfl (y0 (zx rfl rfl (y4 rfl (zxc rfl rfl rfl rfl))))) (zx rfl rfl (y0 (zx rfl rfl (y19l (by decide)))))))))))))))))
set_option maxRecDepth 100000 in
theorem qX6_spells_1_1002 (d : Nat) (σ : zS) (x1 x2 : Int32) : zM (d + 1) mX6_spells [.inr (.inr 1), .inl x1, .inl x2, .inr (.inr 1002)] σ = zexec zc_X6_spells zu_X6_spells (zM d) (999999 + 1) 0 [.inr (.inr 1), .inl x1, .inl x2, .inr (.inr 1002)] σ := zM_eq (zat_X6_spells) rfl (Nat.le_of_ble_eq_true rfl)
set_option maxRecDepth 100000 in
theorem qX6_spells_1_1002_15 (d n : Nat) (σ : zS) (x1 x4 : Int32) : zexec zc_X6_spells zu_X6_spells (zM d) (n + 1) 15 [.inr (.inr 1), .inl x1, .inr (.inr 1002), .inl x4] σ = if x4 < 3 then (zbI (zM d mX5_at [.inr (.inr 1), .inl (x1 + x4)] σ) (fun r1 s1 => if x4 < 0 ∨ 3 ≤ x4.toNatClampNeg then (none) else (if r1 = ((zstr 2).getD x4.toNatClampNeg 0) then (zexec zc_X6_spells zu_X6_spells (zM d) n 15 [.inr (.inr 1), .inl x1, .inr (.inr 1002), .inl (x4 + 1)] s1) else (some (1, 0, s1))))) else (some (1, 1, σ)) := ze rfl rfl rfl (zx rfl rfl (y1 rfl (zx rfl rfl (y2 rfl (zx rfl rfl (y280 (v := 3) rfl rfl rfl rfl (zx rfl rfl (y36 (zx rfl rfl (y2 rfl (zx rfl rfl (y1 rfl (zx rfl rfl (y1 rfl (zx rfl rfl (y7 (v := x1 + x4) rfl (zx rfl rfl (y18 (r := []) rfl rfl rfl rfl rfl (fun r1 s1 => zx rfl rfl (y2 rfl (zx rfl rfl (y1 rfl (zx rfl rfl (y281 (m := 3) (v := (zstr 2).getD x4.toNatClampNeg 0) rfl rfl rfl rfl rfl (zx rfl rfl (y35 (zx rfl rfl (y6 rfl rfl (zx rfl rfl (y12 (zxc rfl rfl rfl rfl))))) (zx rfl rfl (y0 (zx rfl rfl (y19l (by decide))))))))))))))))))))))) (zx rfl rfl (y0 (zx rfl rfl (y19l (by decide)))))))))))))
set_option maxRecDepth 100000 in
theorem qX6_spells_1_1003_0 (d n : Nat) (σ : zS) (x1 x2 : Int32) : zexec zc_X6_spells zu_X6_spells (zM d) (n + 1) 0 [.inr (.inr 1), .inl x1, .inl x2, .inr (.inr 1003)] σ = if (x2 - x1) = 5 then (zexec zc_X6_spells zu_X6_spells (zM d) n 15 [.inr (.inr 1), .inl x1, .inr (.inr 1003), .inl 0] σ) else (some (1, 0, σ)) := ze rfl rfl rfl (zx rfl rfl (y1 rfl (zx rfl rfl (y1 rfl (zx rfl rfl (y7 (v := x2 - x1) rfl (zx rfl rfl (y2 rfl (zx rfl rfl (y280 (v := 5) rfl rfl rfl rfl (zx rfl rfl (y35 (zx rfl rfl (y0 (zx rfl rfl (y4 rfl (zxc rfl rfl rfl rfl))))) (zx rfl rfl (y0 (zx rfl rfl (y19l (by decide)))))))))))))))))
set_option maxRecDepth 100000 in
theorem qX6_spells_1_1003 (d : Nat) (σ : zS) (x1 x2 : Int32) : zM (d + 1) mX6_spells [.inr (.inr 1), .inl x1, .inl x2, .inr (.inr 1003)] σ = zexec zc_X6_spells zu_X6_spells (zM d) (999999 + 1) 0 [.inr (.inr 1), .inl x1, .inl x2, .inr (.inr 1003)] σ := zM_eq (zat_X6_spells) rfl (Nat.le_of_ble_eq_true rfl)
set_option maxRecDepth 100000 in
theorem qX6_spells_1_1003_15 (d n : Nat) (σ : zS) (x1 x4 : Int32) : zexec zc_X6_spells zu_X6_spells (zM d) (n + 1) 15 [.inr (.inr 1), .inl x1, .inr (.inr 1003), .inl x4] σ = if x4 < 5 then (zbI (zM d mX5_at [.inr (.inr 1), .inl (x1 + x4)] σ) (fun r1 s1 => if x4 < 0 ∨ 5 ≤ x4.toNatClampNeg then (none) else (if r1 = ((zstr 3).getD x4.toNatClampNeg 0) then (zexec zc_X6_spells zu_X6_spells (zM d) n 15 [.inr (.inr 1), .inl x1, .inr (.inr 1003), .inl (x4 + 1)] s1) else (some (1, 0, s1))))) else (some (1, 1, σ)) := ze rfl rfl rfl (zx rfl rfl (y1 rfl (zx rfl rfl (y2 rfl (zx rfl rfl (y280 (v := 5) rfl rfl rfl rfl (zx rfl rfl (y36 (zx rfl rfl (y2 rfl (zx rfl rfl (y1 rfl (zx rfl rfl (y1 rfl (zx rfl rfl (y7 (v := x1 + x4) rfl (zx rfl rfl (y18 (r := []) rfl rfl rfl rfl rfl (fun r1 s1 => zx rfl rfl (y2 rfl (zx rfl rfl (y1 rfl (zx rfl rfl (y281 (m := 5) (v := (zstr 3).getD x4.toNatClampNeg 0) rfl rfl rfl rfl rfl (zx rfl rfl (y35 (zx rfl rfl (y6 rfl rfl (zx rfl rfl (y12 (zxc rfl rfl rfl rfl))))) (zx rfl rfl (y0 (zx rfl rfl (y19l (by decide))))))))))))))))))))))) (zx rfl rfl (y0 (zx rfl rfl (y19l (by decide)))))))))))))
set_option maxRecDepth 100000 in
theorem qX6_spells_1_1004_0 (d n : Nat) (σ : zS) (x1 x2 : Int32) : zexec zc_X6_spells zu_X6_spells (zM d) (n + 1) 0 [.inr (.inr 1), .inl x1, .inl x2, .inr (.inr 1004)] σ = if (x2 - x1) = 3 then (zexec zc_X6_spells zu_X6_spells (zM d) n 15 [.inr (.inr 1), .inl x1, .inr (.inr 1004), .inl 0] σ) else (some (1, 0, σ)) := ze rfl rfl rfl (zx rfl rfl (y1 rfl (zx rfl rfl (y1 rfl (zx rfl rfl (y7 (v := x2 - x1) rfl (zx rfl rfl (y2 rfl (zx rfl rfl (y280 (v := 3) rfl rfl rfl rfl (zx rfl rfl (y35 (zx rfl rfl (y0 (zx rfl rfl (y4 rfl (zxc rfl rfl rfl rfl))))) (zx rfl rfl (y0 (zx rfl rfl (y19l (by decide)))))))))))))))))
set_option maxRecDepth 100000 in
theorem qX6_spells_1_1004 (d : Nat) (σ : zS) (x1 x2 : Int32) : zM (d + 1) mX6_spells [.inr (.inr 1), .inl x1, .inl x2, .inr (.inr 1004)] σ = zexec zc_X6_spells zu_X6_spells (zM d) (999999 + 1) 0 [.inr (.inr 1), .inl x1, .inl x2, .inr (.inr 1004)] σ := zM_eq (zat_X6_spells) rfl (Nat.le_of_ble_eq_true rfl)
set_option maxRecDepth 100000 in
theorem qX6_spells_1_1004_15 (d n : Nat) (σ : zS) (x1 x4 : Int32) : zexec zc_X6_spells zu_X6_spells (zM d) (n + 1) 15 [.inr (.inr 1), .inl x1, .inr (.inr 1004), .inl x4] σ = if x4 < 3 then (zbI (zM d mX5_at [.inr (.inr 1), .inl (x1 + x4)] σ) (fun r1 s1 => if x4 < 0 ∨ 3 ≤ x4.toNatClampNeg then (none) else (if r1 = ((zstr 4).getD x4.toNatClampNeg 0) then (zexec zc_X6_spells zu_X6_spells (zM d) n 15 [.inr (.inr 1), .inl x1, .inr (.inr 1004), .inl (x4 + 1)] s1) else (some (1, 0, s1))))) else (some (1, 1, σ)) := ze rfl rfl rfl (zx rfl rfl (y1 rfl (zx rfl rfl (y2 rfl (zx rfl rfl (y280 (v := 3) rfl rfl rfl rfl (zx rfl rfl (y36 (zx rfl rfl (y2 rfl (zx rfl rfl (y1 rfl (zx rfl rfl (y1 rfl (zx rfl rfl (y7 (v := x1 + x4) rfl (zx rfl rfl (y18 (r := []) rfl rfl rfl rfl rfl (fun r1 s1 => zx rfl rfl (y2 rfl (zx rfl rfl (y1 rfl (zx rfl rfl (y281 (m := 3) (v := (zstr 4).getD x4.toNatClampNeg 0) rfl rfl rfl rfl rfl (zx rfl rfl (y35 (zx rfl rfl (y6 rfl rfl (zx rfl rfl (y12 (zxc rfl rfl rfl rfl))))) (zx rfl rfl (y0 (zx rfl rfl (y19l (by decide))))))))))))))))))))))) (zx rfl rfl (y0 (zx rfl rfl (y19l (by decide)))))))))))))
set_option maxRecDepth 100000 in
theorem qX6_spells_1_1005_0 (d n : Nat) (σ : zS) (x1 x2 : Int32) : zexec zc_X6_spells zu_X6_spells (zM d) (n + 1) 0 [.inr (.inr 1), .inl x1, .inl x2, .inr (.inr 1005)] σ = if (x2 - x1) = 3 then (zexec zc_X6_spells zu_X6_spells (zM d) n 15 [.inr (.inr 1), .inl x1, .inr (.inr 1005), .inl 0] σ) else (some (1, 0, σ)) := ze rfl rfl rfl (zx rfl rfl (y1 rfl (zx rfl rfl (y1 rfl (zx rfl rfl (y7 (v := x2 - x1) rfl (zx rfl rfl (y2 rfl (zx rfl rfl (y280 (v := 3) rfl rfl rfl rfl (zx rfl rfl (y35 (zx rfl rfl (y0 (zx rfl rfl (y4 rfl (zxc rfl rfl rfl rfl))))) (zx rfl rfl (y0 (zx rfl rfl (y19l (by decide)))))))))))))))))
set_option maxRecDepth 100000 in
theorem qX6_spells_1_1005 (d : Nat) (σ : zS) (x1 x2 : Int32) : zM (d + 1) mX6_spells [.inr (.inr 1), .inl x1, .inl x2, .inr (.inr 1005)] σ = zexec zc_X6_spells zu_X6_spells (zM d) (999999 + 1) 0 [.inr (.inr 1), .inl x1, .inl x2, .inr (.inr 1005)] σ := zM_eq (zat_X6_spells) rfl (Nat.le_of_ble_eq_true rfl)
set_option maxRecDepth 100000 in
theorem qX6_spells_1_1005_15 (d n : Nat) (σ : zS) (x1 x4 : Int32) : zexec zc_X6_spells zu_X6_spells (zM d) (n + 1) 15 [.inr (.inr 1), .inl x1, .inr (.inr 1005), .inl x4] σ = if x4 < 3 then (zbI (zM d mX5_at [.inr (.inr 1), .inl (x1 + x4)] σ) (fun r1 s1 => if x4 < 0 ∨ 3 ≤ x4.toNatClampNeg then (none) else (if r1 = ((zstr 5).getD x4.toNatClampNeg 0) then (zexec zc_X6_spells zu_X6_spells (zM d) n 15 [.inr (.inr 1), .inl x1, .inr (.inr 1005), .inl (x4 + 1)] s1) else (some (1, 0, s1))))) else (some (1, 1, σ)) := ze rfl rfl rfl (zx rfl rfl (y1 rfl (zx rfl rfl (y2 rfl (zx rfl rfl (y280 (v := 3) rfl rfl rfl rfl (zx rfl rfl (y36 (zx rfl rfl (y2 rfl (zx rfl rfl (y1 rfl (zx rfl rfl (y1 rfl (zx rfl rfl (y7 (v := x1 + x4) rfl (zx rfl rfl (y18 (r := []) rfl rfl rfl rfl rfl (fun r1 s1 => zx rfl rfl (y2 rfl (zx rfl rfl (y1 rfl (zx rfl rfl (y281 (m := 3) (v := (zstr 5).getD x4.toNatClampNeg 0) rfl rfl rfl rfl rfl (zx rfl rfl (y35 (zx rfl rfl (y6 rfl rfl (zx rfl rfl (y12 (zxc rfl rfl rfl rfl))))) (zx rfl rfl (y0 (zx rfl rfl (y19l (by decide))))))))))))))))))))))) (zx rfl rfl (y0 (zx rfl rfl (y19l (by decide)))))))))))))
set_option maxRecDepth 100000 in
theorem qX6_spells_1_1006_0 (d n : Nat) (σ : zS) (x1 x2 : Int32) : zexec zc_X6_spells zu_X6_spells (zM d) (n + 1) 0 [.inr (.inr 1), .inl x1, .inl x2, .inr (.inr 1006)] σ = if (x2 - x1) = 5 then (zexec zc_X6_spells zu_X6_spells (zM d) n 15 [.inr (.inr 1), .inl x1, .inr (.inr 1006), .inl 0] σ) else (some (1, 0, σ)) := ze rfl rfl rfl (zx rfl rfl (y1 rfl (zx rfl rfl (y1 rfl (zx rfl rfl (y7 (v := x2 - x1) rfl (zx rfl rfl (y2 rfl (zx rfl rfl (y280 (v := 5) rfl rfl rfl rfl (zx rfl rfl (y35 (zx rfl rfl (y0 (zx rfl rfl (y4 rfl (zxc rfl rfl rfl rfl))))) (zx rfl rfl (y0 (zx rfl rfl (y19l (by decide)))))))))))))))))
set_option maxRecDepth 100000 in
theorem qX6_spells_1_1006 (d : Nat) (σ : zS) (x1 x2 : Int32) : zM (d + 1) mX6_spells [.inr (.inr 1), .inl x1, .inl x2, .inr (.inr 1006)] σ = zexec zc_X6_spells zu_X6_spells (zM d) (999999 + 1) 0 [.inr (.inr 1), .inl x1, .inl x2, .inr (.inr 1006)] σ := zM_eq (zat_X6_spells) rfl (Nat.le_of_ble_eq_true rfl)
set_option maxRecDepth 100000 in
theorem qX6_spells_1_1006_15 (d n : Nat) (σ : zS) (x1 x4 : Int32) : zexec zc_X6_spells zu_X6_spells (zM d) (n + 1) 15 [.inr (.inr 1), .inl x1, .inr (.inr 1006), .inl x4] σ = if x4 < 5 then (zbI (zM d mX5_at [.inr (.inr 1), .inl (x1 + x4)] σ) (fun r1 s1 => if x4 < 0 ∨ 5 ≤ x4.toNatClampNeg then (none) else (if r1 = ((zstr 6).getD x4.toNatClampNeg 0) then (zexec zc_X6_spells zu_X6_spells (zM d) n 15 [.inr (.inr 1), .inl x1, .inr (.inr 1006), .inl (x4 + 1)] s1) else (some (1, 0, s1))))) else (some (1, 1, σ)) := ze rfl rfl rfl (zx rfl rfl (y1 rfl (zx rfl rfl (y2 rfl (zx rfl rfl (y280 (v := 5) rfl rfl rfl rfl (zx rfl rfl (y36 (zx rfl rfl (y2 rfl (zx rfl rfl (y1 rfl (zx rfl rfl (y1 rfl (zx rfl rfl (y7 (v := x1 + x4) rfl (zx rfl rfl (y18 (r := []) rfl rfl rfl rfl rfl (fun r1 s1 => zx rfl rfl (y2 rfl (zx rfl rfl (y1 rfl (zx rfl rfl (y281 (m := 5) (v := (zstr 6).getD x4.toNatClampNeg 0) rfl rfl rfl rfl rfl (zx rfl rfl (y35 (zx rfl rfl (y6 rfl rfl (zx rfl rfl (y12 (zxc rfl rfl rfl rfl))))) (zx rfl rfl (y0 (zx rfl rfl (y19l (by decide))))))))))))))))))))))) (zx rfl rfl (y0 (zx rfl rfl (y19l (by decide)))))))))))))
set_option maxRecDepth 100000 in
theorem qX6_spells_1_1007_0 (d n : Nat) (σ : zS) (x1 x2 : Int32) : zexec zc_X6_spells zu_X6_spells (zM d) (n + 1) 0 [.inr (.inr 1), .inl x1, .inl x2, .inr (.inr 1007)] σ = if (x2 - x1) = 4 then (zexec zc_X6_spells zu_X6_spells (zM d) n 15 [.inr (.inr 1), .inl x1, .inr (.inr 1007), .inl 0] σ) else (some (1, 0, σ)) := ze rfl rfl rfl (zx rfl rfl (y1 rfl (zx rfl rfl (y1 rfl (zx rfl rfl (y7 (v := x2 - x1) rfl (zx rfl rfl (y2 rfl (zx rfl rfl (y280 (v := 4) rfl rfl rfl rfl (zx rfl rfl (y35 (zx rfl rfl (y0 (zx rfl rfl (y4 rfl (zxc rfl rfl rfl rfl))))) (zx rfl rfl (y0 (zx rfl rfl (y19l (by decide)))))))))))))))))
set_option maxRecDepth 100000 in
theorem qX6_spells_1_1007 (d : Nat) (σ : zS) (x1 x2 : Int32) : zM (d + 1) mX6_spells [.inr (.inr 1), .inl x1, .inl x2, .inr (.inr 1007)] σ = zexec zc_X6_spells zu_X6_spells (zM d) (999999 + 1) 0 [.inr (.inr 1), .inl x1, .inl x2, .inr (.inr 1007)] σ := zM_eq (zat_X6_spells) rfl (Nat.le_of_ble_eq_true rfl)
set_option maxRecDepth 100000 in
theorem qX6_spells_1_1007_15 (d n : Nat) (σ : zS) (x1 x4 : Int32) : zexec zc_X6_spells zu_X6_spells (zM d) (n + 1) 15 [.inr (.inr 1), .inl x1, .inr (.inr 1007), .inl x4] σ = if x4 < 4 then (zbI (zM d mX5_at [.inr (.inr 1), .inl (x1 + x4)] σ) (fun r1 s1 => if x4 < 0 ∨ 4 ≤ x4.toNatClampNeg then (none) else (if r1 = ((zstr 7).getD x4.toNatClampNeg 0) then (zexec zc_X6_spells zu_X6_spells (zM d) n 15 [.inr (.inr 1), .inl x1, .inr (.inr 1007), .inl (x4 + 1)] s1) else (some (1, 0, s1))))) else (some (1, 1, σ)) := ze rfl rfl rfl (zx rfl rfl (y1 rfl (zx rfl rfl (y2 rfl (zx rfl rfl (y280 (v := 4) rfl rfl rfl rfl (zx rfl rfl (y36 (zx rfl rfl (y2 rfl (zx rfl rfl (y1 rfl (zx rfl rfl (y1 rfl (zx rfl rfl (y7 (v := x1 + x4) rfl (zx rfl rfl (y18 (r := []) rfl rfl rfl rfl rfl (fun r1 s1 => zx rfl rfl (y2 rfl (zx rfl rfl (y1 rfl (zx rfl rfl (y281 (m := 4) (v := (zstr 7).getD x4.toNatClampNeg 0) rfl rfl rfl rfl rfl (zx rfl rfl (y35 (zx rfl rfl (y6 rfl rfl (zx rfl rfl (y12 (zxc rfl rfl rfl rfl))))) (zx rfl rfl (y0 (zx rfl rfl (y19l (by decide))))))))))))))))))))))) (zx rfl rfl (y0 (zx rfl rfl (y19l (by decide)))))))))))))
set_option maxRecDepth 100000 in
theorem qX6_spells_1_1008_0 (d n : Nat) (σ : zS) (x1 x2 : Int32) : zexec zc_X6_spells zu_X6_spells (zM d) (n + 1) 0 [.inr (.inr 1), .inl x1, .inl x2, .inr (.inr 1008)] σ = if (x2 - x1) = 4 then (zexec zc_X6_spells zu_X6_spells (zM d) n 15 [.inr (.inr 1), .inl x1, .inr (.inr 1008), .inl 0] σ) else (some (1, 0, σ)) := ze rfl rfl rfl (zx rfl rfl (y1 rfl (zx rfl rfl (y1 rfl (zx rfl rfl (y7 (v := x2 - x1) rfl (zx rfl rfl (y2 rfl (zx rfl rfl (y280 (v := 4) rfl rfl rfl rfl (zx rfl rfl (y35 (zx rfl rfl (y0 (zx rfl rfl (y4 rfl (zxc rfl rfl rfl rfl))))) (zx rfl rfl (y0 (zx rfl rfl (y19l (by decide)))))))))))))))))
set_option maxRecDepth 100000 in
theorem qX6_spells_1_1008 (d : Nat) (σ : zS) (x1 x2 : Int32) : zM (d + 1) mX6_spells [.inr (.inr 1), .inl x1, .inl x2, .inr (.inr 1008)] σ = zexec zc_X6_spells zu_X6_spells (zM d) (999999 + 1) 0 [.inr (.inr 1), .inl x1, .inl x2, .inr (.inr 1008)] σ := zM_eq (zat_X6_spells) rfl (Nat.le_of_ble_eq_true rfl)
set_option maxRecDepth 100000 in
theorem qX6_spells_1_1008_15 (d n : Nat) (σ : zS) (x1 x4 : Int32) : zexec zc_X6_spells zu_X6_spells (zM d) (n + 1) 15 [.inr (.inr 1), .inl x1, .inr (.inr 1008), .inl x4] σ = if x4 < 4 then (zbI (zM d mX5_at [.inr (.inr 1), .inl (x1 + x4)] σ) (fun r1 s1 => if x4 < 0 ∨ 4 ≤ x4.toNatClampNeg then (none) else (if r1 = ((zstr 8).getD x4.toNatClampNeg 0) then (zexec zc_X6_spells zu_X6_spells (zM d) n 15 [.inr (.inr 1), .inl x1, .inr (.inr 1008), .inl (x4 + 1)] s1) else (some (1, 0, s1))))) else (some (1, 1, σ)) := ze rfl rfl rfl (zx rfl rfl (y1 rfl (zx rfl rfl (y2 rfl (zx rfl rfl (y280 (v := 4) rfl rfl rfl rfl (zx rfl rfl (y36 (zx rfl rfl (y2 rfl (zx rfl rfl (y1 rfl (zx rfl rfl (y1 rfl (zx rfl rfl (y7 (v := x1 + x4) rfl (zx rfl rfl (y18 (r := []) rfl rfl rfl rfl rfl (fun r1 s1 => zx rfl rfl (y2 rfl (zx rfl rfl (y1 rfl (zx rfl rfl (y281 (m := 4) (v := (zstr 8).getD x4.toNatClampNeg 0) rfl rfl rfl rfl rfl (zx rfl rfl (y35 (zx rfl rfl (y6 rfl rfl (zx rfl rfl (y12 (zxc rfl rfl rfl rfl))))) (zx rfl rfl (y0 (zx rfl rfl (y19l (by decide))))))))))))))))))))))) (zx rfl rfl (y0 (zx rfl rfl (y19l (by decide)))))))))))))
set_option maxRecDepth 100000 in
theorem qX1_add_7_0 (d n : Nat) (σ : zS) (x1 x2 : Int32) : zexec zc_X1_add zu_X1_add (zM d) (n + 1) 0 [.inr (.inr 7), .inl x1, .inl x2] σ = if (σ 7 7) < 200 then (if (σ 7 7) < 0 ∨ 200 ≤ (σ 7 7).toNatClampNeg then (none) else (if (σ 7 7) < 0 ∨ 200 ≤ (σ 7 7).toNatClampNeg then (none) else (if (σ 7 7) < 0 ∨ 200 ≤ (σ 7 7).toNatClampNeg then (none) else (if (σ 7 7) < 0 ∨ 200 ≤ (σ 7 7).toNatClampNeg then (none) else (if (σ 7 7) < 0 ∨ 200 ≤ (σ 7 7).toNatClampNeg then (none) else (some (1, σ 7 7, wr (wr (wr (wr (wr (wr σ 8 ((σ 7 7).toNatClampNeg) x1) 9 ((σ 7 7).toNatClampNeg) x2) 10 ((σ 7 7).toNatClampNeg) 0) 11 ((σ 7 7).toNatClampNeg) 0) 12 ((σ 7 7).toNatClampNeg) (σ 7 8)) 7 7 ((σ 7 7) + 1)))))))) else (some (1, σ 7 7, σ)) := ze rfl rfl rfl (zx rfl rfl (y2 rfl (zx rfl rfl (y14 (v := .inl (σ 7 7)) rfl (zx rfl rfl (y4 rfl (zx rfl rfl (y1 rfl (zx rfl rfl (y0 (zx rfl rfl (y36 (zx rfl rfl (y2 rfl (zx rfl rfl (y14 (v := .inr (.inr 8)) rfl (zx rfl rfl (y1 rfl (zx rfl rfl (y1 rfl (zx rfl rfl (y17 rfl (zx rfl rfl (y2 rfl (zx rfl rfl (y14 (v := .inr (.inr 9)) rfl (zx rfl rfl (y1 rfl (zx rfl rfl (y1 rfl (zx rfl rfl (y17 rfl (zx rfl rfl (y2 rfl (zx rfl rfl (y14 (v := .inr (.inr 10)) rfl (zx rfl rfl (y1 rfl (zx rfl rfl (y0 (zx rfl rfl (y17 rfl (zx rfl rfl (y2 rfl (zx rfl rfl (y14 (v := .inr (.inr 11)) rfl (zx rfl rfl (y1 rfl (zx rfl rfl (y0 (zx rfl rfl (y17 rfl (zx rfl rfl (y2 rfl (zx rfl rfl (y14 (v := .inr (.inr 12)) rfl (zx rfl rfl (y1 rfl (zx rfl rfl (y2 rfl (zx rfl rfl (y14 (v := .inl (σ 7 8)) rfl (zx rfl rfl (y17 rfl (zx rfl rfl (y2 rfl (zx rfl rfl (y21 rfl (zx rfl rfl (y14 (v := .inl (σ 7 7)) rfl (zx rfl rfl (y0 (zx rfl rfl (y7 (v := (σ 7 7) + 1) rfl (zx rfl rfl (y15 rfl (zx rfl rfl (y1 rfl (zx rfl rfl y19))))))))))))))))))))))))))))))))))))))))))))))))))))))))))))))))))) (zx rfl rfl (y1 rfl (zx rfl rfl y19)))))))))))))))
set_option maxRecDepth 100000 in
theorem qX1_add_7 (d : Nat) (σ : zS) (x1 x2 : Int32) : zM (d + 1) mX1_add [.inr (.inr 7), .inl x1, .inl x2] σ = zexec zc_X1_add zu_X1_add (zM d) (999999 + 1) 0 [.inr (.inr 7), .inl x1, .inl x2] σ := zM_eq (zat_X1_add) rfl (Nat.le_of_ble_eq_true rfl)
set_option maxRecDepth 100000 in
theorem qX6_skip_3_0 (d n : Nat) (σ : zS) : zexec zc_X6_skip zu_X6_skip (zM d) (n + 1) 0 [.inr (.inr 3)] σ = if (σ 3 4) < ((σ 3 3) - 1) then (some (0, 0, wr σ 3 4 ((σ 3 4) + 1))) else (some (0, 0, σ)) := ze rfl rfl rfl (zx rfl rfl (y2 rfl (zx rfl rfl (y14 (v := .inl (σ 3 4)) rfl (zx rfl rfl (y2 rfl (zx rfl rfl (y14 (v := .inl (σ 3 3)) rfl (zx rfl rfl (y0 (zx rfl rfl (y7 (v := (σ 3 3) - 1) rfl (zx rfl rfl (y36 (zx rfl rfl (y2 rfl (zx rfl rfl (y21 rfl (zx rfl rfl (y14 (v := .inl (σ 3 4)) rfl (zx rfl rfl (y0 (zx rfl rfl (y7 (v := (σ 3 4) + 1) rfl (zx rfl rfl (y15 rfl (zx rfl rfl y20))))))))))))) (zx rfl rfl y20)))))))))))))))
set_option maxRecDepth 100000 in
theorem qX6_skip_3 (d : Nat) (σ : zS) : zM (d + 1) mX6_skip [.inr (.inr 3)] σ = zexec zc_X6_skip zu_X6_skip (zM d) (999999 + 1) 0 [.inr (.inr 3)] σ := zM_eq (zat_X6_skip) rfl (Nat.le_of_ble_eq_true rfl)
set_option maxRecDepth 100000 in
theorem qX2_readX_23_0 (d n : Nat) (σ : zS) (x1 : Int32) : zexec zc_X2_readX zu_X2_readX (zM d) (n + 1) 0 [.inr (.inr 23), .inl x1] σ = zbI (zM d mX2_readPart [.inr (.inr 23), .inl x1] σ) (fun r1 s1 => if r1 = 0 then (some (1, 0, s1)) else (zbI (zM d mX6_take [.inr (.inr 3), .inl 60] s1) (fun r2 s2 => if r2 = 0 then (some (1, 1, s2)) else (zbI (zM d mX2_readPart [.inr (.inr 23), .inl x1] s2) (fun r3 s3 => if r3 = 0 then (some (1, 0, s3)) else (zbV (zM d mX1_addItem [.inr (.inr 7), .inl 3, .inl 0] s3) (fun s4 => some (1, 1, s4)))))))) := ze rfl rfl rfl (zx rfl rfl (y2 rfl (zx rfl rfl (y1 rfl (zx rfl rfl (y18 (r := []) rfl rfl rfl rfl rfl (fun r1 s1 => zx rfl rfl (y32 (zx rfl rfl (y0 (zx rfl rfl (y19l (by decide))))) (zx rfl rfl (y2 rfl (zx rfl rfl (y14 (v := .inr (.inr 3)) rfl (zx rfl rfl (y0 (zx rfl rfl (y18 (r := []) rfl rfl rfl rfl rfl (fun r2 s2 => zx rfl rfl (y32 (zx rfl rfl (y0 (zx rfl rfl (y19l (by decide))))) (zx rfl rfl (y2 rfl (zx rfl rfl (y1 rfl (zx rfl rfl (y18 (r := []) rfl rfl rfl rfl rfl (fun r3 s3 => zx rfl rfl (y32 (zx rfl rfl (y0 (zx rfl rfl (y19l (by decide))))) (zx rfl rfl (y2 rfl (zx rfl rfl (y14 (v := .inr (.inr 7)) rfl (zx rfl rfl (y0 (zx rfl rfl (y0 (zx rfl rfl (y30 (r := []) rfl rfl rfl rfl rfl (fun s4 => zx rfl rfl (y0 (zx rfl rfl (y19l (by decide)))))))))))))))))))))))))))))))))))))))))
set_option maxRecDepth 100000 in
theorem qX2_readX_23 (d : Nat) (σ : zS) (x1 : Int32) : zM (d + 1) mX2_readX [.inr (.inr 23), .inl x1] σ = zexec zc_X2_readX zu_X2_readX (zM d) (999999 + 1) 0 [.inr (.inr 23), .inl x1] σ := zM_eq (zat_X2_readX) rfl (Nat.le_of_ble_eq_true rfl)
set_option maxRecDepth 100000 in
theorem qX1_addJump_7_0 (d n : Nat) (σ : zS) (x1 : Int32) : zexec zc_X1_addJump zu_X1_addJump (zM d) (n + 1) 0 [.inr (.inr 7), .inl x1] σ = zbI (zM d mX1_add [.inr (.inr 7), .inl 12, .inl 0] σ) (fun r1 s1 => zbV (zM d mX1_setFirst [.inr (.inr 7), .inl r1, .inl x1] s1) (fun s2 => some (1, r1, wr s2 7 9 ((s2 7 9) + 1)))) := ze rfl rfl rfl (zx rfl rfl (y2 rfl (zx rfl rfl (y0 (zx rfl rfl (y0 (zx rfl rfl (y18 (r := []) rfl rfl rfl rfl rfl (fun r1 s1 => zx rfl rfl (y4 rfl (zx rfl rfl (y2 rfl (zx rfl rfl (y1 rfl (zx rfl rfl (y1 rfl (zx rfl rfl (y30 (r := []) rfl rfl rfl rfl rfl (fun s2 => zx rfl rfl (y2 rfl (zx rfl rfl (y21 rfl (zx rfl rfl (y14 (v := .inl (s2 7 9)) rfl (zx rfl rfl (y0 (zx rfl rfl (y7 (v := (s2 7 9) + 1) rfl (zx rfl rfl (y15 rfl (zx rfl rfl (y1 rfl (zx rfl rfl y19)))))))))))))))))))))))))))))))))
set_option maxRecDepth 100000 in
theorem qX1_addJump_7 (d : Nat) (σ : zS) (x1 : Int32) : zM (d + 1) mX1_addJump [.inr (.inr 7), .inl x1] σ = zexec zc_X1_addJump zu_X1_addJump (zM d) (999999 + 1) 0 [.inr (.inr 7), .inl x1] σ := zM_eq (zat_X1_addJump) rfl (Nat.le_of_ble_eq_true rfl)
set_option maxRecDepth 100000 in
theorem qX1_size_7_0 (d n : Nat) (σ : zS) : zexec zc_X1_size zu_X1_size (zM d) (n + 1) 0 [.inr (.inr 7)] σ = some (1, σ 7 7, σ) := ze rfl rfl rfl (zx rfl rfl (y2 rfl (zx rfl rfl (y14 (v := .inl (σ 7 7)) rfl (zx rfl rfl y19)))))
set_option maxRecDepth 100000 in
theorem qX1_size_7 (d : Nat) (σ : zS) : zM (d + 1) mX1_size [.inr (.inr 7)] σ = zexec zc_X1_size zu_X1_size (zM d) (999999 + 1) 0 [.inr (.inr 7)] σ := zM_eq (zat_X1_size) rfl (Nat.le_of_ble_eq_true rfl)
set_option maxRecDepth 100000 in
theorem qX1_setFirst_7_0 (d n : Nat) (σ : zS) (x1 x2 : Int32) : zexec zc_X1_setFirst zu_X1_setFirst (zM d) (n + 1) 0 [.inr (.inr 7), .inl x1, .inl x2] σ = zbI (zM d mX1_holds [.inr (.inr 7), .inl x1] σ) (fun r1 s1 => if r1 = 0 then (some (0, 0, s1)) else (if x1 < 0 ∨ 200 ≤ x1.toNatClampNeg then (none) else (some (0, 0, wr s1 10 x1.toNatClampNeg x2)))) := ze rfl rfl rfl (zx rfl rfl (y2 rfl (zx rfl rfl (y1 rfl (zx rfl rfl (y18 (r := []) rfl rfl rfl rfl rfl (fun r1 s1 => zx rfl rfl (y32 (zx rfl rfl y20) (zx rfl rfl (y2 rfl (zx rfl rfl (y14 (v := .inr (.inr 10)) rfl (zx rfl rfl (y1 rfl (zx rfl rfl (y1 rfl (zx rfl rfl (y17 rfl (zx rfl rfl y20)))))))))))))))))))
set_option maxRecDepth 100000 in
theorem qX1_setFirst_7 (d : Nat) (σ : zS) (x1 x2 : Int32) : zM (d + 1) mX1_setFirst [.inr (.inr 7), .inl x1, .inl x2] σ = zexec zc_X1_setFirst zu_X1_setFirst (zM d) (999999 + 1) 0 [.inr (.inr 7), .inl x1, .inl x2] σ := zM_eq (zat_X1_setFirst) rfl (Nat.le_of_ble_eq_true rfl)
set_option maxRecDepth 100000 in
theorem qX6_value_3_0 (d n : Nat) (σ : zS) : zexec zc_X6_value zu_X6_value (zM d) (n + 1) 0 [.inr (.inr 3)] σ = if (σ 3 4) < (σ 3 3) then (if (σ 3 4) < 0 ∨ 401 ≤ (σ 3 4).toNatClampNeg then (none) else (some (1, σ 6 ((σ 3 4).toNatClampNeg), σ))) else (some (1, 0, σ)) := ze rfl rfl rfl (zx rfl rfl (y2 rfl (zx rfl rfl (y14 (v := .inl (σ 3 4)) rfl (zx rfl rfl (y2 rfl (zx rfl rfl (y14 (v := .inl (σ 3 3)) rfl (zx rfl rfl (y36 (zx rfl rfl (y2 rfl (zx rfl rfl (y14 (v := .inr (.inr 6)) rfl (zx rfl rfl (y2 rfl (zx rfl rfl (y14 (v := .inl (σ 3 4)) rfl (zx rfl rfl (y16 (v := σ 6 ((σ 3 4).toNatClampNeg)) rfl rfl (zx rfl rfl (y12 (zx rfl rfl y19))))))))))))) (zx rfl rfl (y0 (zx rfl rfl y19)))))))))))))
set_option maxRecDepth 100000 in
theorem qX6_value_3 (d : Nat) (σ : zS) : zM (d + 1) mX6_value [.inr (.inr 3)] σ = zexec zc_X6_value zu_X6_value (zM d) (999999 + 1) 0 [.inr (.inr 3)] σ := zM_eq (zat_X6_value) rfl (Nat.le_of_ble_eq_true rfl)
set_option maxRecDepth 100000 in
theorem qX1_setSort_7_0 (d n : Nat) (σ : zS) (x1 x2 : Int32) : zexec zc_X1_setSort zu_X1_setSort (zM d) (n + 1) 0 [.inr (.inr 7), .inl x1, .inl x2] σ = zbI (zM d mX1_holds [.inr (.inr 7), .inl x1] σ) (fun r1 s1 => if r1 = 0 then (some (0, 0, s1)) else (if x1 < 0 ∨ 200 ≤ x1.toNatClampNeg then (none) else (some (0, 0, wr s1 8 x1.toNatClampNeg x2)))) := ze rfl rfl rfl (zx rfl rfl (y2 rfl (zx rfl rfl (y1 rfl (zx rfl rfl (y18 (r := []) rfl rfl rfl rfl rfl (fun r1 s1 => zx rfl rfl (y32 (zx rfl rfl y20) (zx rfl rfl (y2 rfl (zx rfl rfl (y14 (v := .inr (.inr 8)) rfl (zx rfl rfl (y1 rfl (zx rfl rfl (y1 rfl (zx rfl rfl (y17 rfl (zx rfl rfl y20)))))))))))))))))))
set_option maxRecDepth 100000 in
theorem qX1_setSort_7 (d : Nat) (σ : zS) (x1 x2 : Int32) : zM (d + 1) mX1_setSort [.inr (.inr 7), .inl x1, .inl x2] σ = zexec zc_X1_setSort zu_X1_setSort (zM d) (999999 + 1) 0 [.inr (.inr 7), .inl x1, .inl x2] σ := zM_eq (zat_X1_setSort) rfl (Nat.le_of_ble_eq_true rfl)
set_option maxRecDepth 100000 in
theorem qX2_readRest_23_0 (d n : Nat) (σ : zS) (x1 x2 x3 : Int32) : zexec zc_X2_readRest zu_X2_readRest (zM d) (n + 1) 0 [.inr (.inr 23), .inl x1, .inl x2, .inl x3] σ = if x1 = 1 then (zbI (zM d mX2_readFirst [.inr (.inr 23), .inl x2, .inl 3] σ) (fun r8 s8 => if r8 = 0 then (some (1, 0, s8)) else (zbI (zM d mX6_take [.inr (.inr 3), .inl 44] s8) (fun r9 s9 => if r9 = 0 then (some (1, 0, s9)) else (zbI (zM d mX2_readX [.inr (.inr 23), .inl x3] s9) (fun r10 s10 => if r10 = 0 then (some (1, 0, s10)) else (some (1, 1, s10)))))))) else (if x1 = 2 then (zbI (zM d mX2_readX [.inr (.inr 23), .inl x3] σ) (fun r7 s7 => if r7 = 0 ∨ r7 = 1 then (some (1, r7, s7)) else (none))) else (if x1 = 3 then (zbI (zM d mX2_readFirst [.inr (.inr 23), .inl x2, .inl 2] σ) (fun r6 s6 => if r6 = 0 ∨ r6 = 1 then (some (1, r6, s6)) else (none))) else (if x1 = 4 then (zbI (zM d mX2_readFirst [.inr (.inr 23), .inl x2, .inl 2] σ) (fun r3 s3 => if r3 = 0 then (some (1, 0, s3)) else (zbI (zM d mX6_take [.inr (.inr 3), .inl 44] s3) (fun r4 s4 => if r4 = 0 then (some (1, 0, s4)) else (zbI (zM d mX2_readSecond [.inr (.inr 23), .inl x2] s4) (fun r5 s5 => if r5 = 0 then (some (1, 0, s5)) else (some (1, 1, s5)))))))) else (if x1 = 5 then (zbI (zM d mX2_readFirst [.inr (.inr 23), .inl x2, .inl 2] σ) (fun r2 s2 => if r2 = 0 ∨ r2 = 1 then (some (1, r2, s2)) else (none))) else (if x1 = 6 then (some (1, 1, σ)) else (if x1 = 7 then (some (1, 1, σ)) else (if x1 = 8 then (zbI (zM d mX2_readFirst [.inr (.inr 23), .inl x2, .inl 3] σ) (fun r1 s1 => if r1 = 0 ∨ r1 = 1 then (some (1, r1, s1)) else (none))) else (some (1, 1, σ))))))))) := ze rfl rfl rfl (zx rfl rfl (y1 rfl (zx rfl rfl (y13 (ysw (zx rfl rfl (y2 rfl (zx rfl rfl (y1 rfl (zx rfl rfl (y0 (zx rfl rfl (y18 (r := []) rfl rfl rfl rfl rfl (fun r8 s8 => zx rfl rfl (y32 (zx rfl rfl (y0 (zx rfl rfl (y19l (by decide))))) (zx rfl rfl (y2 rfl (zx rfl rfl (y14 (v := .inr (.inr 3)) rfl (zx rfl rfl (y0 (zx rfl rfl (y18 (r := []) rfl rfl rfl rfl rfl (fun r9 s9 => zx rfl rfl (y32 (zx rfl rfl (y0 (zx rfl rfl (y19l (by decide))))) (zx rfl rfl (y2 rfl (zx rfl rfl (y1 rfl (zx rfl rfl (y18 (r := []) rfl rfl rfl rfl rfl (fun r10 s10 => zx rfl rfl (y32 (zx rfl rfl (y0 (zx rfl rfl (y19l (by decide))))) (zx rfl rfl (y0 (zx rfl rfl (y12 (zx rfl rfl (y19l (by decide))))))))))))))))))))))))))))))))))) (ysw (zx rfl rfl (y2 rfl (zx rfl rfl (y1 rfl (zx rfl rfl (y18 (r := []) rfl rfl rfl rfl rfl (fun r7 s7 => zx rfl rfl y19b))))))) (ysw (zx rfl rfl (y2 rfl (zx rfl rfl (y1 rfl (zx rfl rfl (y0 (zx rfl rfl (y18 (r := []) rfl rfl rfl rfl rfl (fun r6 s6 => zx rfl rfl y19b))))))))) (ysw (zx rfl rfl (y2 rfl (zx rfl rfl (y1 rfl (zx rfl rfl (y0 (zx rfl rfl (y18 (r := []) rfl rfl rfl rfl rfl (fun r3 s3 => zx rfl rfl (y32 (zx rfl rfl (y0 (zx rfl rfl (y19l (by decide))))) (zx rfl rfl (y2 rfl (zx rfl rfl (y14 (v := .inr (.inr 3)) rfl (zx rfl rfl (y0 (zx rfl rfl (y18 (r := []) rfl rfl rfl rfl rfl (fun r4 s4 => zx rfl rfl (y32 (zx rfl rfl (y0 (zx rfl rfl (y19l (by decide))))) (zx rfl rfl (y2 rfl (zx rfl rfl (y1 rfl (zx rfl rfl (y18 (r := []) rfl rfl rfl rfl rfl (fun r5 s5 => zx rfl rfl (y32 (zx rfl rfl (y0 (zx rfl rfl (y19l (by decide))))) (zx rfl rfl (y0 (zx rfl rfl (y12 (zx rfl rfl (y19l (by decide))))))))))))))))))))))))))))))))))) (ysw (zx rfl rfl (y2 rfl (zx rfl rfl (y1 rfl (zx rfl rfl (y0 (zx rfl rfl (y18 (r := []) rfl rfl rfl rfl rfl (fun r2 s2 => zx rfl rfl y19b))))))))) (ysw (zx rfl rfl (y0 (zx rfl rfl (y19l (by decide))))) (ysw (zx rfl rfl (y0 (zx rfl rfl (y19l (by decide))))) (ysw (zx rfl rfl (y2 rfl (zx rfl rfl (y1 rfl (zx rfl rfl (y0 (zx rfl rfl (y18 (r := []) rfl rfl rfl rfl rfl (fun r1 s1 => zx rfl rfl y19b))))))))) (yswd (zx rfl rfl (y0 (zx rfl rfl (y19l (by decide))))))))))))))))))
set_option maxRecDepth 100000 in
theorem qX2_readRest_23 (d : Nat) (σ : zS) (x1 x2 x3 : Int32) : zM (d + 1) mX2_readRest [.inr (.inr 23), .inl x1, .inl x2, .inl x3] σ = zexec zc_X2_readRest zu_X2_readRest (zM d) (999999 + 1) 0 [.inr (.inr 23), .inl x1, .inl x2, .inl x3] σ := zM_eq (zat_X2_readRest) rfl (Nat.le_of_ble_eq_true rfl)
set_option maxRecDepth 100000 in
theorem qX1_itemEnd_15_0 (d n : Nat) (σ : zS) (x1 : Int32) : zexec zc_X1_itemEnd zu_X1_itemEnd (zM d) (n + 1) 0 [.inr (.inr 15), .inl x1] σ = zbI (zM d mX1_holds [.inr (.inr 15), .inl (x1 + 1)] σ) (fun r1 s1 => if r1 = 0 then (some (1, s1 15 8, s1)) else (if (x1 + 1) < 0 ∨ 200 ≤ (x1 + 1).toNatClampNeg then (none) else (some (1, s1 20 ((x1 + 1).toNatClampNeg), s1)))) := ze rfl rfl rfl (zx rfl rfl (y2 rfl (zx rfl rfl (y1 rfl (zx rfl rfl (y0 (zx rfl rfl (y7 (v := x1 + 1) rfl (zx rfl rfl (y18 (r := []) rfl rfl rfl rfl rfl (fun r1 s1 => zx rfl rfl (y32 (zx rfl rfl (y2 rfl (zx rfl rfl (y14 (v := .inl (s1 15 8)) rfl (zx rfl rfl y19))))) (zx rfl rfl (y2 rfl (zx rfl rfl (y14 (v := .inr (.inr 20)) rfl (zx rfl rfl (y1 rfl (zx rfl rfl (y0 (zx rfl rfl (y7 (v := x1 + 1) rfl (zx rfl rfl (y16 (v := s1 20 ((x1 + 1).toNatClampNeg)) rfl rfl (zx rfl rfl (y12 (zx rfl rfl y19)))))))))))))))))))))))))))
set_option maxRecDepth 100000 in
theorem qX1_itemEnd_15 (d : Nat) (σ : zS) (x1 : Int32) : zM (d + 1) mX1_itemEnd [.inr (.inr 15), .inl x1] σ = zexec zc_X1_itemEnd zu_X1_itemEnd (zM d) (999999 + 1) 0 [.inr (.inr 15), .inl x1] σ := zM_eq (zat_X1_itemEnd) rfl (Nat.le_of_ble_eq_true rfl)
set_option maxRecDepth 100000 in
theorem qX1_firstItem_15_0 (d n : Nat) (σ : zS) (x1 : Int32) : zexec zc_X1_firstItem zu_X1_firstItem (zM d) (n + 1) 0 [.inr (.inr 15), .inl x1] σ = zbI (zM d mX1_holds [.inr (.inr 15), .inl x1] σ) (fun r1 s1 => if r1 = 0 then (some (1, 0, s1)) else (if x1 < 0 ∨ 200 ≤ x1.toNatClampNeg then (none) else (some (1, s1 20 x1.toNatClampNeg, s1)))) := ze rfl rfl rfl (zx rfl rfl (y2 rfl (zx rfl rfl (y1 rfl (zx rfl rfl (y18 (r := []) rfl rfl rfl rfl rfl (fun r1 s1 => zx rfl rfl (y32 (zx rfl rfl (y0 (zx rfl rfl y19))) (zx rfl rfl (y2 rfl (zx rfl rfl (y14 (v := .inr (.inr 20)) rfl (zx rfl rfl (y1 rfl (zx rfl rfl (y16 (v := s1 20 x1.toNatClampNeg) rfl rfl (zx rfl rfl (y12 (zx rfl rfl y19)))))))))))))))))))
set_option maxRecDepth 100000 in
theorem qX1_firstItem_15 (d : Nat) (σ : zS) (x1 : Int32) : zM (d + 1) mX1_firstItem [.inr (.inr 15), .inl x1] σ = zexec zc_X1_firstItem zu_X1_firstItem (zM d) (999999 + 1) 0 [.inr (.inr 15), .inl x1] σ := zM_eq (zat_X1_firstItem) rfl (Nat.le_of_ble_eq_true rfl)
set_option maxRecDepth 100000 in
theorem qX1_itemSort_15_0 (d n : Nat) (σ : zS) (x1 : Int32) : zexec zc_X1_itemSort zu_X1_itemSort (zM d) (n + 1) 0 [.inr (.inr 15), .inl x1] σ = if x1 < 0 then (some (1, 0, σ)) else (if x1 < (σ 15 8) then (if x1 < 0 ∨ 400 ≤ x1.toNatClampNeg then (none) else (some (1, σ 21 x1.toNatClampNeg, σ))) else (some (1, 0, σ))) := ze rfl rfl rfl (zx rfl rfl (y1 rfl (zx rfl rfl (y33 (zx rfl rfl (y0 (zx rfl rfl y19))) (zx rfl rfl (y1 rfl (zx rfl rfl (y2 rfl (zx rfl rfl (y14 (v := .inl (σ 15 8)) rfl (zx rfl rfl (y36 (zx rfl rfl (y2 rfl (zx rfl rfl (y14 (v := .inr (.inr 21)) rfl (zx rfl rfl (y1 rfl (zx rfl rfl (y16 (v := σ 21 x1.toNatClampNeg) rfl rfl (zx rfl rfl (y12 (zx rfl rfl y19))))))))))) (zx rfl rfl (y0 (zx rfl rfl y19)))))))))))))))
set_option maxRecDepth 100000 in
theorem qX1_itemSort_15 (d : Nat) (σ : zS) (x1 : Int32) : zM (d + 1) mX1_itemSort [.inr (.inr 15), .inl x1] σ = zexec zc_X1_itemSort zu_X1_itemSort (zM d) (999999 + 1) 0 [.inr (.inr 15), .inl x1] σ := zM_eq (zat_X1_itemSort) rfl (Nat.le_of_ble_eq_true rfl)
set_option maxRecDepth 100000 in
theorem qX1_itemValue_15_0 (d n : Nat) (σ : zS) (x1 : Int32) : zexec zc_X1_itemValue zu_X1_itemValue (zM d) (n + 1) 0 [.inr (.inr 15), .inl x1] σ = if x1 < 0 then (some (1, 0, σ)) else (if x1 < (σ 15 8) then (if x1 < 0 ∨ 400 ≤ x1.toNatClampNeg then (none) else (some (1, σ 22 x1.toNatClampNeg, σ))) else (some (1, 0, σ))) := ze rfl rfl rfl (zx rfl rfl (y1 rfl (zx rfl rfl (y33 (zx rfl rfl (y0 (zx rfl rfl y19))) (zx rfl rfl (y1 rfl (zx rfl rfl (y2 rfl (zx rfl rfl (y14 (v := .inl (σ 15 8)) rfl (zx rfl rfl (y36 (zx rfl rfl (y2 rfl (zx rfl rfl (y14 (v := .inr (.inr 22)) rfl (zx rfl rfl (y1 rfl (zx rfl rfl (y16 (v := σ 22 x1.toNatClampNeg) rfl rfl (zx rfl rfl (y12 (zx rfl rfl y19))))))))))) (zx rfl rfl (y0 (zx rfl rfl y19)))))))))))))))
set_option maxRecDepth 100000 in
theorem qX1_itemValue_15 (d : Nat) (σ : zS) (x1 : Int32) : zM (d + 1) mX1_itemValue [.inr (.inr 15), .inl x1] σ = zexec zc_X1_itemValue zu_X1_itemValue (zM d) (999999 + 1) 0 [.inr (.inr 15), .inl x1] σ := zM_eq (zat_X1_itemValue) rfl (Nat.le_of_ble_eq_true rfl)
set_option maxRecDepth 100000 in
theorem qX4_work_34_0 (d n : Nat) (σ : zS) (x1 x2 : Int32) : zexec zc_X4_work zu_X4_work (zM d) (n + 1) 0 [.inr (.inr 34), .inl x1, .inl x2] σ = if x1 = 0 then (zbV (zM d mX4_push [.inr (.inr 34), .inl x2] σ) (fun s1 => some (0, 0, s1))) else (if x1 = 1 then (zbI (zM d mX3_get [.inr (.inr 30), .inl x2] σ) (fun r2 s2 => zbV (zM d mX4_push [.inr (.inr 34), .inl r2] s2) (fun s3 => some (0, 0, s3)))) else (if x1 = 2 then (zbI (zM d mX4_pop [.inr (.inr 34)] σ) (fun r4 s4 => zbV (zM d mX4_push [.inr (.inr 34), .inl (-r4)] s4) (fun s5 => some (0, 0, s5)))) else (zbI (zM d mX4_pop [.inr (.inr 34)] σ) (fun r6 s6 => zbI (zM d mX4_pop [.inr (.inr 34)] s6) (fun r7 s7 => zbI (zM d mX4_join [.inl x1, .inl r7, .inl r6] s7) (fun r8 s8 => zbV (zM d mX4_push [.inr (.inr 34), .inl r8] s8) (fun s9 => some (0, 0, s9)))))))) := ze rfl rfl rfl (zx rfl rfl (y1 rfl (zx rfl rfl (y32 (zx rfl rfl (y2 rfl (zx rfl rfl (y1 rfl (zx rfl rfl (y30 (r := []) rfl rfl rfl rfl rfl (fun s1 => zx rfl rfl (y12 (zx rfl rfl y20))))))))) (zx rfl rfl (y1 rfl (zx rfl rfl (y0 (zx rfl rfl (y35 (zx rfl rfl (y2 rfl (zx rfl rfl (y2 rfl (zx rfl rfl (y14 (v := .inr (.inr 30)) rfl (zx rfl rfl (y1 rfl (zx rfl rfl (y18 (r := [.inr (.inr 34)]) rfl rfl rfl rfl rfl (fun r2 s2 => zx rfl rfl (y30 (r := []) rfl rfl rfl rfl rfl (fun s3 => zx rfl rfl (y12 (zx rfl rfl y20))))))))))))))) (zx rfl rfl (y1 rfl (zx rfl rfl (y0 (zx rfl rfl (y35 (zx rfl rfl (y2 rfl (zx rfl rfl (y2 rfl (zx rfl rfl (y18 (r := [.inr (.inr 34)]) rfl rfl rfl rfl rfl (fun r4 s4 => zx rfl rfl (y8 (v := -r4) rfl (zx rfl rfl (y30 (r := []) rfl rfl rfl rfl rfl (fun s5 => zx rfl rfl (y12 (zx rfl rfl y20))))))))))))) (zx rfl rfl (y2 rfl (zx rfl rfl (y18 (r := []) rfl rfl rfl rfl rfl (fun r6 s6 => zx rfl rfl (y4 rfl (zx rfl rfl (y2 rfl (zx rfl rfl (y18 (r := []) rfl rfl rfl rfl rfl (fun r7 s7 => zx rfl rfl (y4 rfl (zx rfl rfl (y2 rfl (zx rfl rfl (y1 rfl (zx rfl rfl (y1 rfl (zx rfl rfl (y1 rfl (zx rfl rfl (y18 (r := [.inr (.inr 34)]) rfl rfl rfl rfl rfl (fun r8 s8 => zx rfl rfl (y30 (r := []) rfl rfl rfl rfl rfl (fun s9 => zx rfl rfl y20)))))))))))))))))))))))))))))))))))))))))
set_option maxRecDepth 100000 in
theorem qX4_work_34 (d : Nat) (σ : zS) (x1 x2 : Int32) : zM (d + 1) mX4_work [.inr (.inr 34), .inl x1, .inl x2] σ = zexec zc_X4_work zu_X4_work (zM d) (999999 + 1) 0 [.inr (.inr 34), .inl x1, .inl x2] σ := zM_eq (zat_X4_work) rfl (Nat.le_of_ble_eq_true rfl)
set_option maxRecDepth 100000 in
theorem qX4_pop_34_0 (d n : Nat) (σ : zS) : zexec zc_X4_pop zu_X4_pop (zM d) (n + 1) 0 [.inr (.inr 34)] σ = if (σ 34 5) < 1 then (some (1, 0, σ)) else (if 34 < (σ 34 5) then (some (1, 0, σ)) else (if ((σ 34 5) - 1) < 0 ∨ 34 ≤ ((σ 34 5) - 1).toNatClampNeg then (none) else (some (1, σ 37 (((σ 34 5) - 1).toNatClampNeg), wr σ 34 5 ((σ 34 5) - 1))))) := ze rfl rfl rfl (zx rfl rfl (y2 rfl (zx rfl rfl (y14 (v := .inl (σ 34 5)) rfl (zx rfl rfl (y0 (zx rfl rfl (y36 (zx rfl rfl (y0 (zx rfl rfl y19))) (zx rfl rfl (y2 rfl (zx rfl rfl (y14 (v := .inl (σ 34 5)) rfl (zx rfl rfl (y0 (zx rfl rfl (y37 (zx rfl rfl (y0 (zx rfl rfl y19))) (zx rfl rfl (y2 rfl (zx rfl rfl (y21 rfl (zx rfl rfl (y14 (v := .inl (σ 34 5)) rfl (zx rfl rfl (y0 (zx rfl rfl (y7 (v := (σ 34 5) - 1) rfl (zx rfl rfl (y15 rfl (zx rfl rfl (y2 rfl (zx rfl rfl (y14 (v := .inr (.inr 37)) rfl (zx rfl rfl (y2 rfl (zx rfl rfl (y14 (v := .inl ((σ 34 5) - 1)) rfl (zx rfl rfl (y16 (v := σ 37 (((σ 34 5) - 1).toNatClampNeg)) rfl rfl (zx rfl rfl y19)))))))))))))))))))))))))))))))))))))))
set_option maxRecDepth 100000 in
theorem qX4_pop_34 (d : Nat) (σ : zS) : zM (d + 1) mX4_pop [.inr (.inr 34)] σ = zexec zc_X4_pop zu_X4_pop (zM d) (999999 + 1) 0 [.inr (.inr 34)] σ := zM_eq (zat_X4_pop) rfl (Nat.le_of_ble_eq_true rfl)
set_option maxRecDepth 100000 in
theorem qX1_targetAt_15_0 (d n : Nat) (σ : zS) (x1 : Int32) : zexec zc_X1_targetAt zu_X1_targetAt (zM d) (n + 1) 0 [.inr (.inr 15), .inl x1] σ = zbI (zM d mX1_holds [.inr (.inr 15), .inl x1] σ) (fun r1 s1 => if r1 = 0 then (some (1, 0, s1)) else (if x1 < 0 ∨ 200 ≤ x1.toNatClampNeg then (none) else (some (1, s1 17 x1.toNatClampNeg, s1)))) := ze rfl rfl rfl (zx rfl rfl (y2 rfl (zx rfl rfl (y1 rfl (zx rfl rfl (y18 (r := []) rfl rfl rfl rfl rfl (fun r1 s1 => zx rfl rfl (y32 (zx rfl rfl (y0 (zx rfl rfl y19))) (zx rfl rfl (y2 rfl (zx rfl rfl (y14 (v := .inr (.inr 17)) rfl (zx rfl rfl (y1 rfl (zx rfl rfl (y16 (v := s1 17 x1.toNatClampNeg) rfl rfl (zx rfl rfl (y12 (zx rfl rfl y19)))))))))))))))))))
set_option maxRecDepth 100000 in
theorem qX1_targetAt_15 (d : Nat) (σ : zS) (x1 : Int32) : zM (d + 1) mX1_targetAt [.inr (.inr 15), .inl x1] σ = zexec zc_X1_targetAt zu_X1_targetAt (zM d) (999999 + 1) 0 [.inr (.inr 15), .inl x1] σ := zM_eq (zat_X1_targetAt) rfl (Nat.le_of_ble_eq_true rfl)
set_option maxRecDepth 100000 in
theorem qX3_set_30_0 (d n : Nat) (σ : zS) (x1 x2 : Int32) : zexec zc_X3_set zu_X3_set (zM d) (n + 1) 0 [.inr (.inr 30), .inl x1, .inl x2] σ = if x1 < 0 then (some (0, 0, σ)) else (if x1 < 8 then (if x1 < 0 ∨ 8 ≤ x1.toNatClampNeg then (none) else (some (0, 0, wr σ 31 x1.toNatClampNeg x2))) else (some (0, 0, σ))) := ze rfl rfl rfl (zx rfl rfl (y1 rfl (zx rfl rfl (y33 (zx rfl rfl y20) (zx rfl rfl (y1 rfl (zx rfl rfl (y0 (zx rfl rfl (y36 (zx rfl rfl (y2 rfl (zx rfl rfl (y14 (v := .inr (.inr 31)) rfl (zx rfl rfl (y1 rfl (zx rfl rfl (y1 rfl (zx rfl rfl (y17 rfl (zx rfl rfl y20))))))))))) (zx rfl rfl y20)))))))))))
set_option maxRecDepth 100000 in
theorem qX3_set_30 (d : Nat) (σ : zS) (x1 x2 : Int32) : zM (d + 1) mX3_set [.inr (.inr 30), .inl x1, .inl x2] σ = zexec zc_X3_set zu_X3_set (zM d) (999999 + 1) 0 [.inr (.inr 30), .inl x1, .inl x2] σ := zM_eq (zat_X3_set) rfl (Nat.le_of_ble_eq_true rfl)
set_option maxRecDepth 100000 in
theorem qX4_want_34_0 (d n : Nat) (σ : zS) (x1 x2 x3 : Int32) : zexec zc_X4_want zu_X4_want (zM d) (n + 1) 0 [.inr (.inr 34), .inl x1, .inl x2, .inl x3] σ = if (σ 34 9) = 0 then (if (σ 34 7) < (σ 34 8) then (zbI (zM d mX0_isAt [.inr (.inr 24), .inl (σ 34 7), .inl x1, .inl x2, .inl x3] σ) (fun r1 s1 => if r1 = 0 then (zbV (zM d mX4_differ [.inr (.inr 34)] s1) (fun s2 => some (1, 0, s2))) else (some (1, 1, wr s1 34 7 ((s1 34 7) + 1))))) else (zbV (zM d mX4_differ [.inr (.inr 34)] σ) (fun s3 => some (1, 0, s3)))) else (zbI (zM d mX0_add [.inr (.inr 24), .inl x1, .inl x2, .inl x3] σ) (fun r4 s4 => if r4 = 0 then (some (1, 0, wr s4 34 11 5)) else (some (1, 1, wr s4 34 7 ((s4 34 7) + 1))))) := ze rfl rfl rfl (zx rfl rfl (y2 rfl (zx rfl rfl (y14 (v := .inl (σ 34 9)) rfl (zx rfl rfl (y32 (zx rfl rfl (y2 rfl (zx rfl rfl (y14 (v := .inl (σ 34 7)) rfl (zx rfl rfl (y2 rfl (zx rfl rfl (y14 (v := .inl (σ 34 8)) rfl (zx rfl rfl (y36 (zx rfl rfl (y2 rfl (zx rfl rfl (y14 (v := .inr (.inr 24)) rfl (zx rfl rfl (y2 rfl (zx rfl rfl (y14 (v := .inl (σ 34 7)) rfl (zx rfl rfl (y1 rfl (zx rfl rfl (y1 rfl (zx rfl rfl (y1 rfl (zx rfl rfl (y18 (r := []) rfl rfl rfl rfl rfl (fun r1 s1 => zx rfl rfl (y32 (zx rfl rfl (y2 rfl (zx rfl rfl (y30 (r := []) rfl rfl rfl rfl rfl (fun s2 => zx rfl rfl (y0 (zx rfl rfl (y19l (by decide))))))))) (zx rfl rfl (y2 rfl (zx rfl rfl (y21 rfl (zx rfl rfl (y14 (v := .inl (s1 34 7)) rfl (zx rfl rfl (y0 (zx rfl rfl (y7 (v := (s1 34 7) + 1) rfl (zx rfl rfl (y15 rfl (zx rfl rfl (y0 (zx rfl rfl (y19l (by decide))))))))))))))))))))))))))))))))))) (zx rfl rfl (y2 rfl (zx rfl rfl (y30 (r := []) rfl rfl rfl rfl rfl (fun s3 => zx rfl rfl (y0 (zx rfl rfl (y19l (by decide))))))))))))))))))) (zx rfl rfl (y2 rfl (zx rfl rfl (y14 (v := .inr (.inr 24)) rfl (zx rfl rfl (y1 rfl (zx rfl rfl (y1 rfl (zx rfl rfl (y1 rfl (zx rfl rfl (y18 (r := []) rfl rfl rfl rfl rfl (fun r4 s4 => zx rfl rfl (y32 (zx rfl rfl (y2 rfl (zx rfl rfl (y0 (zx rfl rfl (y15 rfl (zx rfl rfl (y0 (zx rfl rfl (y19l (by decide))))))))))) (zx rfl rfl (y2 rfl (zx rfl rfl (y21 rfl (zx rfl rfl (y14 (v := .inl (s4 34 7)) rfl (zx rfl rfl (y0 (zx rfl rfl (y7 (v := (s4 34 7) + 1) rfl (zx rfl rfl (y15 rfl (zx rfl rfl (y0 (zx rfl rfl (y19l (by decide)))))))))))))))))))))))))))))))))))))
set_option maxRecDepth 100000 in
theorem qX4_want_34 (d : Nat) (σ : zS) (x1 x2 x3 : Int32) : zM (d + 1) mX4_want [.inr (.inr 34), .inl x1, .inl x2, .inl x3] σ = zexec zc_X4_want zu_X4_want (zM d) (999999 + 1) 0 [.inr (.inr 34), .inl x1, .inl x2, .inl x3] σ := zM_eq (zat_X4_want) rfl (Nat.le_of_ble_eq_true rfl)
set_option maxRecDepth 100000 in
theorem qX0_endOf_24_0 (d n : Nat) (σ : zS) (x1 x2 : Int32) : zexec zc_X0_endOf zu_X0_endOf (zM d) (n + 1) 0 [.inr (.inr 24), .inl x1, .inl x2] σ = zbI (zM d mX0_holds [.inr (.inr 24), .inl x1] σ) (fun r1 s1 => if r1 = 0 then (some (1, (-1), s1)) else (if x1 < 0 ∨ 200 ≤ x1.toNatClampNeg then (none) else (if (s1 28 x1.toNatClampNeg) < x2 then (if x1 < 0 ∨ 200 ≤ x1.toNatClampNeg then (none) else (some (1, s1 28 x1.toNatClampNeg, s1))) else (some (1, (-1), s1))))) := ze rfl rfl rfl (zx rfl rfl (y2 rfl (zx rfl rfl (y1 rfl (zx rfl rfl (y18 (r := []) rfl rfl rfl rfl rfl (fun r1 s1 => zx rfl rfl (y32 (zx rfl rfl (y0 (zx rfl rfl y19))) (zx rfl rfl (y2 rfl (zx rfl rfl (y14 (v := .inr (.inr 28)) rfl (zx rfl rfl (y1 rfl (zx rfl rfl (y16 (v := s1 28 x1.toNatClampNeg) rfl rfl (zx rfl rfl (y1 rfl (zx rfl rfl (y36 (zx rfl rfl (y2 rfl (zx rfl rfl (y14 (v := .inr (.inr 28)) rfl (zx rfl rfl (y1 rfl (zx rfl rfl (y16 (v := s1 28 x1.toNatClampNeg) rfl rfl (zx rfl rfl (y12 (zx rfl rfl y19))))))))))) (zx rfl rfl (y0 (zx rfl rfl y19)))))))))))))))))))))))
set_option maxRecDepth 100000 in
theorem qX0_endOf_24 (d : Nat) (σ : zS) (x1 x2 : Int32) : zM (d + 1) mX0_endOf [.inr (.inr 24), .inl x1, .inl x2] σ = zexec zc_X0_endOf zu_X0_endOf (zM d) (999999 + 1) 0 [.inr (.inr 24), .inl x1, .inl x2] σ := zM_eq (zat_X0_endOf) rfl (Nat.le_of_ble_eq_true rfl)
set_option maxRecDepth 100000 in
theorem qX0_signal_24_0 (d n : Nat) (σ : zS) (x1 x2 : Int32) : zexec zc_X0_signal zu_X0_signal (zM d) (n + 1) 0 [.inr (.inr 24), .inl x1, .inl x2] σ = if x1 < 0 then (some (1, (-1), σ)) else (if x1 < (σ 24 6) then (if x1 < 0 ∨ 200 ≤ x1.toNatClampNeg then (none) else (if (σ 29 x1.toNatClampNeg) < x2 then (if x1 < 0 ∨ 200 ≤ x1.toNatClampNeg then (none) else (some (1, σ 29 x1.toNatClampNeg, σ))) else (some (1, (-1), σ)))) else (some (1, (-1), σ))) := ze rfl rfl rfl (zx rfl rfl (y1 rfl (zx rfl rfl (y33 (zx rfl rfl (y0 (zx rfl rfl (y4 rfl (zx rfl rfl (y1 rfl (zx rfl rfl ((y32 rfl rfl).trans (yif (by decide) (zx rfl rfl (y0 (zx rfl rfl y19)))))))))))) (zx rfl rfl (y1 rfl (zx rfl rfl (y2 rfl (zx rfl rfl (y14 (v := .inl (σ 24 6)) rfl (zx rfl rfl (y36 (zx rfl rfl (y2 rfl (zx rfl rfl (y14 (v := .inr (.inr 29)) rfl (zx rfl rfl (y1 rfl (zx rfl rfl (y16 (v := σ 29 x1.toNatClampNeg) rfl rfl (zx rfl rfl (y1 rfl (zx rfl rfl (y36 (zx rfl rfl (y0 (zx rfl rfl (y12 (zx rfl rfl (y4 rfl (zx rfl rfl (y1 rfl (zx rfl rfl ((y32 rfl rfl).trans (yel (by decide) (zx rfl rfl (y2 rfl (zx rfl rfl (y14 (v := .inr (.inr 29)) rfl (zx rfl rfl (y1 rfl (zx rfl rfl (y16 (v := σ 29 x1.toNatClampNeg) rfl rfl (zx rfl rfl (y12 (zx rfl rfl y19)))))))))))))))))))))) (zx rfl rfl (y0 (zx rfl rfl (y4 rfl (zx rfl rfl (y1 rfl (zx rfl rfl ((y32 rfl rfl).trans (yif (by decide) (zx rfl rfl (y0 (zx rfl rfl y19)))))))))))))))))))))))) (zx rfl rfl (y0 (zx rfl rfl (y4 rfl (zx rfl rfl (y1 rfl (zx rfl rfl ((y32 rfl rfl).trans (yif (by decide) (zx rfl rfl (y0 (zx rfl rfl y19))))))))))))))))))))))))
set_option maxRecDepth 100000 in
theorem qX0_signal_24 (d : Nat) (σ : zS) (x1 x2 : Int32) : zM (d + 1) mX0_signal [.inr (.inr 24), .inl x1, .inl x2] σ = zexec zc_X0_signal zu_X0_signal (zM d) (999999 + 1) 0 [.inr (.inr 24), .inl x1, .inl x2] σ := zM_eq (zat_X0_signal) rfl (Nat.le_of_ble_eq_true rfl)
set_option maxRecDepth 100000 in
theorem qX0_isAt_24_0 (d n : Nat) (σ : zS) (x1 x2 x3 x4 : Int32) : zexec zc_X0_isAt zu_X0_isAt (zM d) (n + 1) 0 [.inr (.inr 24), .inl x1, .inl x2, .inl x3, .inl x4] σ = zbI (zM d mX0_holds [.inr (.inr 24), .inl x1] σ) (fun r1 s1 => if r1 = 0 then (some (1, 0, s1)) else (if x1 < 0 ∨ 200 ≤ x1.toNatClampNeg then (none) else (if (s1 25 x1.toNatClampNeg) = x2 then (if x1 < 0 ∨ 200 ≤ x1.toNatClampNeg then (none) else (if (s1 26 x1.toNatClampNeg) = x3 then (if x1 < 0 ∨ 200 ≤ x1.toNatClampNeg then (none) else (if (s1 27 x1.toNatClampNeg) = x4 then (some (1, 1, s1)) else (some (1, 0, s1)))) else (some (1, 0, s1)))) else (some (1, 0, s1))))) := ze rfl rfl rfl (zx rfl rfl (y2 rfl (zx rfl rfl (y1 rfl (zx rfl rfl (y18 (r := []) rfl rfl rfl rfl rfl (fun r1 s1 => zx rfl rfl (y32 (zx rfl rfl (y0 (zx rfl rfl (y19l (by decide))))) (zx rfl rfl (y2 rfl (zx rfl rfl (y14 (v := .inr (.inr 25)) rfl (zx rfl rfl (y1 rfl (zx rfl rfl (y16 (v := s1 25 x1.toNatClampNeg) rfl rfl (zx rfl rfl (y1 rfl (zx rfl rfl (y35 (zx rfl rfl (y2 rfl (zx rfl rfl (y14 (v := .inr (.inr 26)) rfl (zx rfl rfl (y1 rfl (zx rfl rfl (y16 (v := s1 26 x1.toNatClampNeg) rfl rfl (zx rfl rfl (y1 rfl (zx rfl rfl (y35 (zx rfl rfl (y2 rfl (zx rfl rfl (y14 (v := .inr (.inr 27)) rfl (zx rfl rfl (y1 rfl (zx rfl rfl (y16 (v := s1 27 x1.toNatClampNeg) rfl rfl (zx rfl rfl (y1 rfl (zx rfl rfl (y35 (zx rfl rfl (y0 (zx rfl rfl (y12 (zx rfl rfl (y19l (by decide))))))) (zx rfl rfl (y0 (zx rfl rfl (y19l (by decide))))))))))))))))) (zx rfl rfl (y0 (zx rfl rfl (y19l (by decide))))))))))))))))) (zx rfl rfl (y0 (zx rfl rfl (y19l (by decide)))))))))))))))))))))))))
set_option maxRecDepth 100000 in
theorem qX0_isAt_24 (d : Nat) (σ : zS) (x1 x2 x3 x4 : Int32) : zM (d + 1) mX0_isAt [.inr (.inr 24), .inl x1, .inl x2, .inl x3, .inl x4] σ = zexec zc_X0_isAt zu_X0_isAt (zM d) (999999 + 1) 0 [.inr (.inr 24), .inl x1, .inl x2, .inl x3, .inl x4] σ := zM_eq (zat_X0_isAt) rfl (Nat.le_of_ble_eq_true rfl)
set_option maxRecDepth 100000 in
theorem qX2_readPart_23_0 (d n : Nat) (σ : zS) (x1 : Int32) : zexec zc_X2_readPart zu_X2_readPart (zM d) (n + 1) 0 [.inr (.inr 23), .inl x1] σ = zbI (zM d mX2_readTerm [.inr (.inr 23), .inl x1] σ) (fun r1 s1 => if r1 = 0 then (some (1, 0, s1)) else (zexec zc_X2_readPart zu_X2_readPart (zM d) n 12 [.inr (.inr 23), .inl x1, .inl 0] s1)) := ze rfl rfl rfl (zx rfl rfl (y2 rfl (zx rfl rfl (y1 rfl (zx rfl rfl (y18 (r := []) rfl rfl rfl rfl rfl (fun r1 s1 => zx rfl rfl (y32 (zx rfl rfl (y0 (zx rfl rfl (y19l (by decide))))) (zx rfl rfl (y0 (zx rfl rfl (y4 rfl (zxc rfl rfl rfl rfl)))))))))))))
set_option maxRecDepth 100000 in
theorem qX2_readPart_23 (d : Nat) (σ : zS) (x1 : Int32) : zM (d + 1) mX2_readPart [.inr (.inr 23), .inl x1] σ = zexec zc_X2_readPart zu_X2_readPart (zM d) (999999 + 1) 0 [.inr (.inr 23), .inl x1] σ := zM_eq (zat_X2_readPart) rfl (Nat.le_of_ble_eq_true rfl)
set_option maxRecDepth 100000 in
theorem qX2_readPart_23_12 (d n : Nat) (σ : zS) (x1 x2 : Int32) : zexec zc_X2_readPart zu_X2_readPart (zM d) (n + 1) 12 [.inr (.inr 23), .inl x1, .inl x2] σ = if x2 < 400 then (zbI (zM d mX6_kind [.inr (.inr 3)] σ) (fun r1 s1 => if r1 = 43 then (zbI (zM d mX6_kind [.inr (.inr 3)] s1) (fun r2 s2 => if r2 = 43 then (zbV (zM d mX6_skip [.inr (.inr 3)] s2) (fun s3 => zbI (zM d mX2_readTerm [.inr (.inr 23), .inl x1] s3) (fun r4 s4 => if r4 = 0 then (some (1, 0, s4)) else (zbV (zM d mX1_addItem [.inr (.inr 7), .inl 4, .inl 0] s4) (fun s5 => zexec zc_X2_readPart zu_X2_readPart (zM d) n 12 [.inr (.inr 23), .inl x1, .inl (x2 + 1)] s5))))) else (zbV (zM d mX6_skip [.inr (.inr 3)] s2) (fun s6 => zbI (zM d mX2_readTerm [.inr (.inr 23), .inl x1] s6) (fun r7 s7 => if r7 = 0 then (some (1, 0, s7)) else (zbV (zM d mX1_addItem [.inr (.inr 7), .inl 5, .inl 0] s7) (fun s8 => zexec zc_X2_readPart zu_X2_readPart (zM d) n 12 [.inr (.inr 23), .inl x1, .inl (x2 + 1)] s8))))))) else (zbI (zM d mX6_kind [.inr (.inr 3)] s1) (fun r9 s9 => if r9 = 45 then (zbI (zM d mX6_kind [.inr (.inr 3)] s9) (fun r10 s10 => if r10 = 43 then (zbV (zM d mX6_skip [.inr (.inr 3)] s10) (fun s11 => zbI (zM d mX2_readTerm [.inr (.inr 23), .inl x1] s11) (fun r12 s12 => if r12 = 0 then (some (1, 0, s12)) else (zbV (zM d mX1_addItem [.inr (.inr 7), .inl 4, .inl 0] s12) (fun s13 => zexec zc_X2_readPart zu_X2_readPart (zM d) n 12 [.inr (.inr 23), .inl x1, .inl (x2 + 1)] s13))))) else (zbV (zM d mX6_skip [.inr (.inr 3)] s10) (fun s14 => zbI (zM d mX2_readTerm [.inr (.inr 23), .inl x1] s14) (fun r15 s15 => if r15 = 0 then (some (1, 0, s15)) else (zbV (zM d mX1_addItem [.inr (.inr 7), .inl 5, .inl 0] s15) (fun s16 => zexec zc_X2_readPart zu_X2_readPart (zM d) n 12 [.inr (.inr 23), .inl x1, .inl (x2 + 1)] s16))))))) else (some (1, 1, s9)))))) else (some (1, 1, σ)) := ze rfl rfl rfl (zx rfl rfl (y1 rfl (zx rfl rfl (y0 (zx rfl rfl (y36 (zx rfl rfl (y2 rfl (zx rfl rfl (y14 (v := .inr (.inr 3)) rfl (zx rfl rfl (y18 (r := []) rfl rfl rfl rfl rfl (fun r1 s1 => zx rfl rfl (y0 (zx rfl rfl (y35 (zx rfl rfl (y2 rfl (zx rfl rfl (y14 (v := .inr (.inr 3)) rfl (zx rfl rfl (y18 (r := []) rfl rfl rfl rfl rfl (fun r2 s2 => zx rfl rfl (y0 (zx rfl rfl (y35 (zx rfl rfl (y0 (zx rfl rfl (y12 (zx rfl rfl (y4 rfl (zx rfl rfl (y2 rfl (zx rfl rfl (y14 (v := .inr (.inr 3)) rfl (zx rfl rfl (y30 (r := []) rfl rfl rfl rfl rfl (fun s3 => zx rfl rfl (y2 rfl (zx rfl rfl (y1 rfl (zx rfl rfl (y18 (r := []) rfl rfl rfl rfl rfl (fun r4 s4 => zx rfl rfl (y32 (zx rfl rfl (y0 (zx rfl rfl (y19l (by decide))))) (zx rfl rfl (y2 rfl (zx rfl rfl (y14 (v := .inr (.inr 7)) rfl (zx rfl rfl (y1 rfl (zx rfl rfl (y0 (zx rfl rfl (y30 (r := []) rfl rfl rfl rfl rfl (fun s5 => zx rfl rfl (y6 rfl rfl (zx rfl rfl (y12 (zxc rfl rfl rfl rfl))))))))))))))))))))))))))))))))))) (zx rfl rfl (y0 (zx rfl rfl (y4 rfl (zx rfl rfl (y2 rfl (zx rfl rfl (y14 (v := .inr (.inr 3)) rfl (zx rfl rfl (y30 (r := []) rfl rfl rfl rfl rfl (fun s6 => zx rfl rfl (y2 rfl (zx rfl rfl (y1 rfl (zx rfl rfl (y18 (r := []) rfl rfl rfl rfl rfl (fun r7 s7 => zx rfl rfl (y32 (zx rfl rfl (y0 (zx rfl rfl (y19l (by decide))))) (zx rfl rfl (y2 rfl (zx rfl rfl (y14 (v := .inr (.inr 7)) rfl (zx rfl rfl (y1 rfl (zx rfl rfl (y0 (zx rfl rfl (y30 (r := []) rfl rfl rfl rfl rfl (fun s8 => zx rfl rfl (y6 rfl rfl (zx rfl rfl (y12 (zxc rfl rfl rfl rfl))))))))))))))))))))))))))))))))))))))))))) (zx rfl rfl (y2 rfl (zx rfl rfl (y14 (v := .inr (.inr 3)) rfl (zx rfl rfl (y18 (r := []) rfl rfl rfl rfl rfl (fun r9 s9 => zx rfl rfl (y0 (zx rfl rfl (y35 (zx rfl rfl (y2 rfl (zx rfl rfl (y14 (v := .inr (.inr 3)) rfl (zx rfl rfl (y18 (r := []) rfl rfl rfl rfl rfl (fun r10 s10 => zx rfl rfl (y0 (zx rfl rfl (y35 (zx rfl rfl (y0 (zx rfl rfl (y12 (zx rfl rfl (y4 rfl (zx rfl rfl (y2 rfl (zx rfl rfl (y14 (v := .inr (.inr 3)) rfl (zx rfl rfl (y30 (r := []) rfl rfl rfl rfl rfl (fun s11 => zx rfl rfl (y2 rfl (zx rfl rfl (y1 rfl (zx rfl rfl (y18 (r := []) rfl rfl rfl rfl rfl (fun r12 s12 => zx rfl rfl (y32 (zx rfl rfl (y0 (zx rfl rfl (y19l (by decide))))) (zx rfl rfl (y2 rfl (zx rfl rfl (y14 (v := .inr (.inr 7)) rfl (zx rfl rfl (y1 rfl (zx rfl rfl (y0 (zx rfl rfl (y30 (r := []) rfl rfl rfl rfl rfl (fun s13 => zx rfl rfl (y6 rfl rfl (zx rfl rfl (y12 (zxc rfl rfl rfl rfl))))))))))))))))))))))))))))))))))) (zx rfl rfl (y0 (zx rfl rfl (y4 rfl (zx rfl rfl (y2 rfl (zx rfl rfl (y14 (v := .inr (.inr 3)) rfl (zx rfl rfl (y30 (r := []) rfl rfl rfl rfl rfl (fun s14 => zx rfl rfl (y2 rfl (zx rfl rfl (y1 rfl (zx rfl rfl (y18 (r := []) rfl rfl rfl rfl rfl (fun r15 s15 => zx rfl rfl (y32 (zx rfl rfl (y0 (zx rfl rfl (y19l (by decide))))) (zx rfl rfl (y2 rfl (zx rfl rfl (y14 (v := .inr (.inr 7)) rfl (zx rfl rfl (y1 rfl (zx rfl rfl (y0 (zx rfl rfl (y30 (r := []) rfl rfl rfl rfl rfl (fun s16 => zx rfl rfl (y6 rfl rfl (zx rfl rfl (y12 (zxc rfl rfl rfl rfl))))))))))))))))))))))))))))))))))))))))))) (zx rfl rfl (y0 (zx rfl rfl (y19l (by decide))))))))))))))))))))))))) (zx rfl rfl (y0 (zx rfl rfl (y19l (by decide)))))))))))
set_option maxRecDepth 100000 in
theorem qX1_addItem_7_0 (d n : Nat) (σ : zS) (x1 x2 : Int32) : zexec zc_X1_addItem zu_X1_addItem (zM d) (n + 1) 0 [.inr (.inr 7), .inl x1, .inl x2] σ = if (σ 7 8) < 400 then (if (σ 7 8) < 0 ∨ 400 ≤ (σ 7 8).toNatClampNeg then (none) else (if (σ 7 8) < 0 ∨ 400 ≤ (σ 7 8).toNatClampNeg then (none) else (some (0, 0, wr (wr (wr σ 13 ((σ 7 8).toNatClampNeg) x1) 14 ((σ 7 8).toNatClampNeg) x2) 7 8 ((σ 7 8) + 1))))) else (some (0, 0, σ)) := ze rfl rfl rfl (zx rfl rfl (y2 rfl (zx rfl rfl (y14 (v := .inl (σ 7 8)) rfl (zx rfl rfl (y0 (zx rfl rfl (y36 (zx rfl rfl (y2 rfl (zx rfl rfl (y14 (v := .inr (.inr 13)) rfl (zx rfl rfl (y2 rfl (zx rfl rfl (y14 (v := .inl (σ 7 8)) rfl (zx rfl rfl (y1 rfl (zx rfl rfl (y17 rfl (zx rfl rfl (y2 rfl (zx rfl rfl (y14 (v := .inr (.inr 14)) rfl (zx rfl rfl (y2 rfl (zx rfl rfl (y14 (v := .inl (σ 7 8)) rfl (zx rfl rfl (y1 rfl (zx rfl rfl (y17 rfl (zx rfl rfl (y2 rfl (zx rfl rfl (y21 rfl (zx rfl rfl (y14 (v := .inl (σ 7 8)) rfl (zx rfl rfl (y0 (zx rfl rfl (y7 (v := (σ 7 8) + 1) rfl (zx rfl rfl (y15 rfl (zx rfl rfl y20))))))))))))))))))))))))))))))))))))) (zx rfl rfl y20)))))))))
set_option maxRecDepth 100000 in
theorem qX1_addItem_7 (d : Nat) (σ : zS) (x1 x2 : Int32) : zM (d + 1) mX1_addItem [.inr (.inr 7), .inl x1, .inl x2] σ = zexec zc_X1_addItem zu_X1_addItem (zM d) (999999 + 1) 0 [.inr (.inr 7), .inl x1, .inl x2] σ := zM_eq (zat_X1_addItem) rfl (Nat.le_of_ble_eq_true rfl)
set_option maxRecDepth 100000 in
theorem qX1_holds_7_0 (d n : Nat) (σ : zS) (x1 : Int32) : zexec zc_X1_holds zu_X1_holds (zM d) (n + 1) 0 [.inr (.inr 7), .inl x1] σ = if x1 < 0 then (some (1, 0, σ)) else (if x1 < (σ 7 7) then (some (1, 1, σ)) else (some (1, 0, σ))) := ze rfl rfl rfl (zx rfl rfl (y1 rfl (zx rfl rfl (y33 (zx rfl rfl (y0 (zx rfl rfl (y19l (by decide))))) (zx rfl rfl (y1 rfl (zx rfl rfl (y2 rfl (zx rfl rfl (y14 (v := .inl (σ 7 7)) rfl (zx rfl rfl (y36 (zx rfl rfl (y0 (zx rfl rfl (y12 (zx rfl rfl (y19l (by decide))))))) (zx rfl rfl (y0 (zx rfl rfl (y19l (by decide)))))))))))))))))
set_option maxRecDepth 100000 in
theorem qX1_holds_7 (d : Nat) (σ : zS) (x1 : Int32) : zM (d + 1) mX1_holds [.inr (.inr 7), .inl x1] σ = zexec zc_X1_holds zu_X1_holds (zM d) (999999 + 1) 0 [.inr (.inr 7), .inl x1] σ := zM_eq (zat_X1_holds) rfl (Nat.le_of_ble_eq_true rfl)
set_option maxRecDepth 100000 in
theorem qX2_readFirst_23_0 (d n : Nat) (σ : zS) (x1 x2 : Int32) : zexec zc_X2_readFirst zu_X2_readFirst (zM d) (n + 1) 0 [.inr (.inr 23), .inl x1, .inl x2] σ = zbI (zM d mX6_value [.inr (.inr 3)] σ) (fun r1 s1 => zbV (zM d mX1_setFirst [.inr (.inr 7), .inl x1, .inl r1] s1) (fun s2 => zbI (zM d mX6_take [.inr (.inr 3), .inl x2] s2) (fun r3 s3 => if r3 = 0 ∨ r3 = 1 then (some (1, r3, s3)) else (none)))) := ze rfl rfl rfl (zx rfl rfl (y2 rfl (zx rfl rfl (y14 (v := .inr (.inr 7)) rfl (zx rfl rfl (y1 rfl (zx rfl rfl (y2 rfl (zx rfl rfl (y14 (v := .inr (.inr 3)) rfl (zx rfl rfl (y18 (r := [.inl x1, .inr (.inr 7)]) rfl rfl rfl rfl rfl (fun r1 s1 => zx rfl rfl (y30 (r := []) rfl rfl rfl rfl rfl (fun s2 => zx rfl rfl (y2 rfl (zx rfl rfl (y14 (v := .inr (.inr 3)) rfl (zx rfl rfl (y1 rfl (zx rfl rfl (y18 (r := []) rfl rfl rfl rfl rfl (fun r3 s3 => zx rfl rfl y19b)))))))))))))))))))))))
set_option maxRecDepth 100000 in
theorem qX2_readFirst_23 (d : Nat) (σ : zS) (x1 x2 : Int32) : zM (d + 1) mX2_readFirst [.inr (.inr 23), .inl x1, .inl x2] σ = zexec zc_X2_readFirst zu_X2_readFirst (zM d) (999999 + 1) 0 [.inr (.inr 23), .inl x1, .inl x2] σ := zM_eq (zat_X2_readFirst) rfl (Nat.le_of_ble_eq_true rfl)
set_option maxRecDepth 100000 in
theorem qX2_readSecond_23_0 (d n : Nat) (σ : zS) (x1 : Int32) : zexec zc_X2_readSecond zu_X2_readSecond (zM d) (n + 1) 0 [.inr (.inr 23), .inl x1] σ = zbI (zM d mX6_value [.inr (.inr 3)] σ) (fun r1 s1 => zbV (zM d mX1_setSecond [.inr (.inr 7), .inl x1, .inl r1] s1) (fun s2 => zbI (zM d mX6_take [.inr (.inr 3), .inl 2] s2) (fun r3 s3 => if r3 = 0 ∨ r3 = 1 then (some (1, r3, s3)) else (none)))) := ze rfl rfl rfl (zx rfl rfl (y2 rfl (zx rfl rfl (y14 (v := .inr (.inr 7)) rfl (zx rfl rfl (y1 rfl (zx rfl rfl (y2 rfl (zx rfl rfl (y14 (v := .inr (.inr 3)) rfl (zx rfl rfl (y18 (r := [.inl x1, .inr (.inr 7)]) rfl rfl rfl rfl rfl (fun r1 s1 => zx rfl rfl (y30 (r := []) rfl rfl rfl rfl rfl (fun s2 => zx rfl rfl (y2 rfl (zx rfl rfl (y14 (v := .inr (.inr 3)) rfl (zx rfl rfl (y0 (zx rfl rfl (y18 (r := []) rfl rfl rfl rfl rfl (fun r3 s3 => zx rfl rfl y19b)))))))))))))))))))))))
set_option maxRecDepth 100000 in
theorem qX2_readSecond_23 (d : Nat) (σ : zS) (x1 : Int32) : zM (d + 1) mX2_readSecond [.inr (.inr 23), .inl x1] σ = zexec zc_X2_readSecond zu_X2_readSecond (zM d) (999999 + 1) 0 [.inr (.inr 23), .inl x1] σ := zM_eq (zat_X2_readSecond) rfl (Nat.le_of_ble_eq_true rfl)
set_option maxRecDepth 100000 in
theorem qX4_push_34_0 (d n : Nat) (σ : zS) (x1 : Int32) : zexec zc_X4_push zu_X4_push (zM d) (n + 1) 0 [.inr (.inr 34), .inl x1] σ = if (σ 34 5) < 0 then (some (0, 0, σ)) else (if (σ 34 5) < 34 then (if (σ 34 5) < 0 ∨ 34 ≤ (σ 34 5).toNatClampNeg then (none) else (some (0, 0, wr (wr σ 37 ((σ 34 5).toNatClampNeg) x1) 34 5 ((σ 34 5) + 1)))) else (some (0, 0, σ))) := ze rfl rfl rfl (zx rfl rfl (y2 rfl (zx rfl rfl (y14 (v := .inl (σ 34 5)) rfl (zx rfl rfl (y33 (zx rfl rfl y20) (zx rfl rfl (y2 rfl (zx rfl rfl (y14 (v := .inl (σ 34 5)) rfl (zx rfl rfl (y0 (zx rfl rfl (y36 (zx rfl rfl (y2 rfl (zx rfl rfl (y14 (v := .inr (.inr 37)) rfl (zx rfl rfl (y2 rfl (zx rfl rfl (y14 (v := .inl (σ 34 5)) rfl (zx rfl rfl (y1 rfl (zx rfl rfl (y17 rfl (zx rfl rfl (y2 rfl (zx rfl rfl (y21 rfl (zx rfl rfl (y14 (v := .inl (σ 34 5)) rfl (zx rfl rfl (y0 (zx rfl rfl (y7 (v := (σ 34 5) + 1) rfl (zx rfl rfl (y15 rfl (zx rfl rfl y20))))))))))))))))))))))))) (zx rfl rfl y20)))))))))))))))
set_option maxRecDepth 100000 in
theorem qX4_push_34 (d : Nat) (σ : zS) (x1 : Int32) : zM (d + 1) mX4_push [.inr (.inr 34), .inl x1] σ = zexec zc_X4_push zu_X4_push (zM d) (999999 + 1) 0 [.inr (.inr 34), .inl x1] σ := zM_eq (zat_X4_push) rfl (Nat.le_of_ble_eq_true rfl)
set_option maxRecDepth 100000 in
theorem qX4_join_0 (d n : Nat) (σ : zS) (x0 x1 x2 : Int32) : zexec zc_X4_join zu_X4_join (zM d) (n + 1) 0 [.inl x0, .inl x1, .inl x2] σ = if x0 = 3 then (if x1 < x2 then (some (1, 1, σ)) else (some (1, 0, σ))) else (if x0 = 4 then (some (1, x1 + x2, σ)) else (if x0 = 5 then (some (1, x1 - x2, σ)) else (some (1, x1 * x2, σ)))) := ze rfl rfl rfl (zx rfl rfl (y1 rfl (zx rfl rfl (y13 (ysw (zx rfl rfl (y1 rfl (zx rfl rfl (y1 rfl (zx rfl rfl (y36 (zx rfl rfl (y0 (zx rfl rfl (y12 (zx rfl rfl y19))))) (zx rfl rfl (y0 (zx rfl rfl y19))))))))) (ysw (zx rfl rfl (y1 rfl (zx rfl rfl (y1 rfl (zx rfl rfl (y7 (v := x1 + x2) rfl (zx rfl rfl y19))))))) (ysw (zx rfl rfl (y1 rfl (zx rfl rfl (y1 rfl (zx rfl rfl (y7 (v := x1 - x2) rfl (zx rfl rfl y19))))))) (yswd (zx rfl rfl (y1 rfl (zx rfl rfl (y1 rfl (zx rfl rfl (y7 (v := x1 * x2) rfl (zx rfl rfl y19)))))))))))))))
set_option maxRecDepth 100000 in
theorem qX4_join (d : Nat) (σ : zS) (x0 x1 x2 : Int32) : zM (d + 1) mX4_join [.inl x0, .inl x1, .inl x2] σ = zexec zc_X4_join zu_X4_join (zM d) (999999 + 1) 0 [.inl x0, .inl x1, .inl x2] σ := zM_eq (zat_X4_join) rfl (Nat.le_of_ble_eq_true rfl)
set_option maxRecDepth 100000 in
theorem qX2_readTerm_23_0 (d n : Nat) (σ : zS) (x1 : Int32) : zexec zc_X2_readTerm zu_X2_readTerm (zM d) (n + 1) 0 [.inr (.inr 23), .inl x1] σ = zbI (zM d mX2_readFactor [.inr (.inr 23), .inl x1] σ) (fun r1 s1 => if r1 = 0 then (some (1, 0, s1)) else (zexec zc_X2_readTerm zu_X2_readTerm (zM d) n 12 [.inr (.inr 23), .inl x1, .inl 0] s1)) := ze rfl rfl rfl (zx rfl rfl (y2 rfl (zx rfl rfl (y1 rfl (zx rfl rfl (y18 (r := []) rfl rfl rfl rfl rfl (fun r1 s1 => zx rfl rfl (y32 (zx rfl rfl (y0 (zx rfl rfl (y19l (by decide))))) (zx rfl rfl (y0 (zx rfl rfl (y4 rfl (zxc rfl rfl rfl rfl)))))))))))))
set_option maxRecDepth 100000 in
theorem qX2_readTerm_23 (d : Nat) (σ : zS) (x1 : Int32) : zM (d + 1) mX2_readTerm [.inr (.inr 23), .inl x1] σ = zexec zc_X2_readTerm zu_X2_readTerm (zM d) (999999 + 1) 0 [.inr (.inr 23), .inl x1] σ := zM_eq (zat_X2_readTerm) rfl (Nat.le_of_ble_eq_true rfl)
set_option maxRecDepth 100000 in
theorem qX2_readTerm_23_12 (d n : Nat) (σ : zS) (x1 x2 : Int32) : zexec zc_X2_readTerm zu_X2_readTerm (zM d) (n + 1) 12 [.inr (.inr 23), .inl x1, .inl x2] σ = if x2 < 400 then (zbI (zM d mX6_kind [.inr (.inr 3)] σ) (fun r1 s1 => if r1 = 42 then (zbV (zM d mX6_skip [.inr (.inr 3)] s1) (fun s2 => zbI (zM d mX2_readFactor [.inr (.inr 23), .inl x1] s2) (fun r3 s3 => if r3 = 0 then (some (1, 0, s3)) else (zbV (zM d mX1_addItem [.inr (.inr 7), .inl 6, .inl 0] s3) (fun s4 => zexec zc_X2_readTerm zu_X2_readTerm (zM d) n 12 [.inr (.inr 23), .inl x1, .inl (x2 + 1)] s4))))) else (some (1, 1, s1)))) else (some (1, 1, σ)) := ze rfl rfl rfl (zx rfl rfl (y1 rfl (zx rfl rfl (y0 (zx rfl rfl (y36 (zx rfl rfl (y2 rfl (zx rfl rfl (y14 (v := .inr (.inr 3)) rfl (zx rfl rfl (y18 (r := []) rfl rfl rfl rfl rfl (fun r1 s1 => zx rfl rfl (y0 (zx rfl rfl (y35 (zx rfl rfl (y2 rfl (zx rfl rfl (y14 (v := .inr (.inr 3)) rfl (zx rfl rfl (y30 (r := []) rfl rfl rfl rfl rfl (fun s2 => zx rfl rfl (y2 rfl (zx rfl rfl (y1 rfl (zx rfl rfl (y18 (r := []) rfl rfl rfl rfl rfl (fun r3 s3 => zx rfl rfl (y32 (zx rfl rfl (y0 (zx rfl rfl (y19l (by decide))))) (zx rfl rfl (y2 rfl (zx rfl rfl (y14 (v := .inr (.inr 7)) rfl (zx rfl rfl (y0 (zx rfl rfl (y0 (zx rfl rfl (y30 (r := []) rfl rfl rfl rfl rfl (fun s4 => zx rfl rfl (y6 rfl rfl (zx rfl rfl (y12 (zxc rfl rfl rfl rfl))))))))))))))))))))))))))))) (zx rfl rfl (y0 (zx rfl rfl (y19l (by decide))))))))))))))) (zx rfl rfl (y0 (zx rfl rfl (y19l (by decide)))))))))))
set_option maxRecDepth 100000 in
theorem qX1_setSecond_7_0 (d n : Nat) (σ : zS) (x1 x2 : Int32) : zexec zc_X1_setSecond zu_X1_setSecond (zM d) (n + 1) 0 [.inr (.inr 7), .inl x1, .inl x2] σ = zbI (zM d mX1_holds [.inr (.inr 7), .inl x1] σ) (fun r1 s1 => if r1 = 0 then (some (0, 0, s1)) else (if x1 < 0 ∨ 200 ≤ x1.toNatClampNeg then (none) else (some (0, 0, wr s1 11 x1.toNatClampNeg x2)))) := ze rfl rfl rfl (zx rfl rfl (y2 rfl (zx rfl rfl (y1 rfl (zx rfl rfl (y18 (r := []) rfl rfl rfl rfl rfl (fun r1 s1 => zx rfl rfl (y32 (zx rfl rfl y20) (zx rfl rfl (y2 rfl (zx rfl rfl (y14 (v := .inr (.inr 11)) rfl (zx rfl rfl (y1 rfl (zx rfl rfl (y1 rfl (zx rfl rfl (y17 rfl (zx rfl rfl y20)))))))))))))))))))
set_option maxRecDepth 100000 in
theorem qX1_setSecond_7 (d : Nat) (σ : zS) (x1 x2 : Int32) : zM (d + 1) mX1_setSecond [.inr (.inr 7), .inl x1, .inl x2] σ = zexec zc_X1_setSecond zu_X1_setSecond (zM d) (999999 + 1) 0 [.inr (.inr 7), .inl x1, .inl x2] σ := zM_eq (zat_X1_setSecond) rfl (Nat.le_of_ble_eq_true rfl)
set_option maxRecDepth 100000 in
theorem qX2_readFactor_23_0 (d n : Nat) (σ : zS) (x1 : Int32) : zexec zc_X2_readFactor zu_X2_readFactor (zM d) (n + 1) 0 [.inr (.inr 23), .inl x1] σ = zbI (zM d mX6_kind [.inr (.inr 3)] σ) (fun r1 s1 => if r1 = 3 then (if r1 = 3 then (zbI (zM d mX6_value [.inr (.inr 3)] s1) (fun r2 s2 => zbV (zM d mX1_addItem [.inr (.inr 7), .inl 0, .inl r2] s2) (fun s3 => zbV (zM d mX6_skip [.inr (.inr 3)] s3) (fun s4 => some (1, 1, s4))))) else (zbI (zM d mX6_value [.inr (.inr 3)] s1) (fun r5 s5 => zbV (zM d mX1_addItem [.inr (.inr 7), .inl 1, .inl r5] s5) (fun s6 => zbV (zM d mX6_skip [.inr (.inr 3)] s6) (fun s7 => some (1, 1, s7)))))) else (if r1 = 2 then (if r1 = 3 then (zbI (zM d mX6_value [.inr (.inr 3)] s1) (fun r8 s8 => zbV (zM d mX1_addItem [.inr (.inr 7), .inl 0, .inl r8] s8) (fun s9 => zbV (zM d mX6_skip [.inr (.inr 3)] s9) (fun s10 => some (1, 1, s10))))) else (zbI (zM d mX6_value [.inr (.inr 3)] s1) (fun r11 s11 => zbV (zM d mX1_addItem [.inr (.inr 7), .inl 1, .inl r11] s11) (fun s12 => zbV (zM d mX6_skip [.inr (.inr 3)] s12) (fun s13 => some (1, 1, s13)))))) else (if r1 = 45 then (if x1 < 10 then (zbV (zM d mX6_skip [.inr (.inr 3)] s1) (fun s14 => if r1 = 40 then (zbI (zM d mX2_readX [.inr (.inr 23), .inl (x1 + 1)] s14) (fun r15 s15 => if r15 = 0 then (some (1, 0, s15)) else (zbI (zM d mX6_take [.inr (.inr 3), .inl 41] s15) (fun r16 s16 => if r16 = 0 then (some (1, 0, s16)) else (some (1, 1, s16)))))) else (zbI (zM d mX2_readFactor [.inr (.inr 23), .inl (x1 + 1)] s14) (fun r17 s17 => if r17 = 0 then (some (1, 0, s17)) else (zbV (zM d mX1_addItem [.inr (.inr 7), .inl 2, .inl 0] s17) (fun s18 => some (1, 1, s18))))))) else (some (1, 0, s1))) else (if r1 = 40 then (if x1 < 10 then (zbV (zM d mX6_skip [.inr (.inr 3)] s1) (fun s19 => if r1 = 40 then (zbI (zM d mX2_readX [.inr (.inr 23), .inl (x1 + 1)] s19) (fun r20 s20 => if r20 = 0 then (some (1, 0, s20)) else (zbI (zM d mX6_take [.inr (.inr 3), .inl 41] s20) (fun r21 s21 => if r21 = 0 then (some (1, 0, s21)) else (some (1, 1, s21)))))) else (zbI (zM d mX2_readFactor [.inr (.inr 23), .inl (x1 + 1)] s19) (fun r22 s22 => if r22 = 0 then (some (1, 0, s22)) else (zbV (zM d mX1_addItem [.inr (.inr 7), .inl 2, .inl 0] s22) (fun s23 => some (1, 1, s23))))))) else (some (1, 0, s1))) else (some (1, 0, s1)))))) := ze rfl rfl rfl (zx rfl rfl (y2 rfl (zx rfl rfl (y14 (v := .inr (.inr 3)) rfl (zx rfl rfl (y18 (r := []) rfl rfl rfl rfl rfl (fun r1 s1 => zx rfl rfl (y4 rfl (zx rfl rfl (y1 rfl (zx rfl rfl (y0 (zx rfl rfl (y35 (zx rfl rfl (y2 rfl (zx rfl rfl (y14 (v := .inr (.inr 7)) rfl (zx rfl rfl (y1 rfl (zx rfl rfl (y0 (zx rfl rfl (y35 (zx rfl rfl (y0 (zx rfl rfl (y12 (zx rfl rfl (y2 rfl (zx rfl rfl (y14 (v := .inr (.inr 3)) rfl (zx rfl rfl (y18 (r := [.inl 0, .inr (.inr 7)]) rfl rfl rfl rfl rfl (fun r2 s2 => zx rfl rfl (y30 (r := []) rfl rfl rfl rfl rfl (fun s3 => zx rfl rfl (y2 rfl (zx rfl rfl (y14 (v := .inr (.inr 3)) rfl (zx rfl rfl (y30 (r := []) rfl rfl rfl rfl rfl (fun s4 => zx rfl rfl (y0 (zx rfl rfl (y19l (by decide))))))))))))))))))))))) (zx rfl rfl (y0 (zx rfl rfl (y2 rfl (zx rfl rfl (y14 (v := .inr (.inr 3)) rfl (zx rfl rfl (y18 (r := [.inl 1, .inr (.inr 7)]) rfl rfl rfl rfl rfl (fun r5 s5 => zx rfl rfl (y30 (r := []) rfl rfl rfl rfl rfl (fun s6 => zx rfl rfl (y2 rfl (zx rfl rfl (y14 (v := .inr (.inr 3)) rfl (zx rfl rfl (y30 (r := []) rfl rfl rfl rfl rfl (fun s7 => zx rfl rfl (y0 (zx rfl rfl (y19l (by decide))))))))))))))))))))))))))))))) (zx rfl rfl (y1 rfl (zx rfl rfl (y0 (zx rfl rfl (y35 (zx rfl rfl (y2 rfl (zx rfl rfl (y14 (v := .inr (.inr 7)) rfl (zx rfl rfl (y1 rfl (zx rfl rfl (y0 (zx rfl rfl (y35 (zx rfl rfl (y0 (zx rfl rfl (y12 (zx rfl rfl (y2 rfl (zx rfl rfl (y14 (v := .inr (.inr 3)) rfl (zx rfl rfl (y18 (r := [.inl 0, .inr (.inr 7)]) rfl rfl rfl rfl rfl (fun r8 s8 => zx rfl rfl (y30 (r := []) rfl rfl rfl rfl rfl (fun s9 => zx rfl rfl (y2 rfl (zx rfl rfl (y14 (v := .inr (.inr 3)) rfl (zx rfl rfl (y30 (r := []) rfl rfl rfl rfl rfl (fun s10 => zx rfl rfl (y0 (zx rfl rfl (y19l (by decide))))))))))))))))))))))) (zx rfl rfl (y0 (zx rfl rfl (y2 rfl (zx rfl rfl (y14 (v := .inr (.inr 3)) rfl (zx rfl rfl (y18 (r := [.inl 1, .inr (.inr 7)]) rfl rfl rfl rfl rfl (fun r11 s11 => zx rfl rfl (y30 (r := []) rfl rfl rfl rfl rfl (fun s12 => zx rfl rfl (y2 rfl (zx rfl rfl (y14 (v := .inr (.inr 3)) rfl (zx rfl rfl (y30 (r := []) rfl rfl rfl rfl rfl (fun s13 => zx rfl rfl (y0 (zx rfl rfl (y19l (by decide))))))))))))))))))))))))))))))) (zx rfl rfl (y1 rfl (zx rfl rfl (y0 (zx rfl rfl (y35 (zx rfl rfl (y1 rfl (zx rfl rfl (y0 (zx rfl rfl (y36 (zx rfl rfl (y2 rfl (zx rfl rfl (y14 (v := .inr (.inr 3)) rfl (zx rfl rfl (y30 (r := []) rfl rfl rfl rfl rfl (fun s14 => zx rfl rfl (y1 rfl (zx rfl rfl (y0 (zx rfl rfl (y35 (zx rfl rfl (y2 rfl (zx rfl rfl (y1 rfl (zx rfl rfl (y0 (zx rfl rfl (y7 (v := x1 + 1) rfl (zx rfl rfl (y18 (r := []) rfl rfl rfl rfl rfl (fun r15 s15 => zx rfl rfl (y32 (zx rfl rfl (y0 (zx rfl rfl (y19l (by decide))))) (zx rfl rfl (y2 rfl (zx rfl rfl (y14 (v := .inr (.inr 3)) rfl (zx rfl rfl (y0 (zx rfl rfl (y18 (r := []) rfl rfl rfl rfl rfl (fun r16 s16 => zx rfl rfl (y32 (zx rfl rfl (y0 (zx rfl rfl (y19l (by decide))))) (zx rfl rfl (y0 (zx rfl rfl (y12 (zx rfl rfl (y19l (by decide))))))))))))))))))))))))))))) (zx rfl rfl (y2 rfl (zx rfl rfl (y1 rfl (zx rfl rfl (y0 (zx rfl rfl (y7 (v := x1 + 1) rfl (zx rfl rfl (y18 (r := []) rfl rfl rfl rfl rfl (fun r17 s17 => zx rfl rfl (y32 (zx rfl rfl (y0 (zx rfl rfl (y19l (by decide))))) (zx rfl rfl (y2 rfl (zx rfl rfl (y14 (v := .inr (.inr 7)) rfl (zx rfl rfl (y0 (zx rfl rfl (y0 (zx rfl rfl (y30 (r := []) rfl rfl rfl rfl rfl (fun s18 => zx rfl rfl (y0 (zx rfl rfl (y19l (by decide))))))))))))))))))))))))))))))))))))))) (zx rfl rfl (y0 (zx rfl rfl (y19l (by decide))))))))))) (zx rfl rfl (y1 rfl (zx rfl rfl (y0 (zx rfl rfl (y35 (zx rfl rfl (y1 rfl (zx rfl rfl (y0 (zx rfl rfl (y36 (zx rfl rfl (y2 rfl (zx rfl rfl (y14 (v := .inr (.inr 3)) rfl (zx rfl rfl (y30 (r := []) rfl rfl rfl rfl rfl (fun s19 => zx rfl rfl (y1 rfl (zx rfl rfl (y0 (zx rfl rfl (y35 (zx rfl rfl (y2 rfl (zx rfl rfl (y1 rfl (zx rfl rfl (y0 (zx rfl rfl (y7 (v := x1 + 1) rfl (zx rfl rfl (y18 (r := []) rfl rfl rfl rfl rfl (fun r20 s20 => zx rfl rfl (y32 (zx rfl rfl (y0 (zx rfl rfl (y19l (by decide))))) (zx rfl rfl (y2 rfl (zx rfl rfl (y14 (v := .inr (.inr 3)) rfl (zx rfl rfl (y0 (zx rfl rfl (y18 (r := []) rfl rfl rfl rfl rfl (fun r21 s21 => zx rfl rfl (y32 (zx rfl rfl (y0 (zx rfl rfl (y19l (by decide))))) (zx rfl rfl (y0 (zx rfl rfl (y12 (zx rfl rfl (y19l (by decide))))))))))))))))))))))))))))) (zx rfl rfl (y2 rfl (zx rfl rfl (y1 rfl (zx rfl rfl (y0 (zx rfl rfl (y7 (v := x1 + 1) rfl (zx rfl rfl (y18 (r := []) rfl rfl rfl rfl rfl (fun r22 s22 => zx rfl rfl (y32 (zx rfl rfl (y0 (zx rfl rfl (y19l (by decide))))) (zx rfl rfl (y2 rfl (zx rfl rfl (y14 (v := .inr (.inr 7)) rfl (zx rfl rfl (y0 (zx rfl rfl (y0 (zx rfl rfl (y30 (r := []) rfl rfl rfl rfl rfl (fun s23 => zx rfl rfl (y0 (zx rfl rfl (y19l (by decide))))))))))))))))))))))))))))))))))))))) (zx rfl rfl (y0 (zx rfl rfl (y19l (by decide))))))))))) (zx rfl rfl (y0 (zx rfl rfl (y19l (by decide)))))))))))))))))))))))))))))))))))))
set_option maxRecDepth 100000 in
theorem qX2_readFactor_23 (d : Nat) (σ : zS) (x1 : Int32) : zM (d + 1) mX2_readFactor [.inr (.inr 23), .inl x1] σ = zexec zc_X2_readFactor zu_X2_readFactor (zM d) (999999 + 1) 0 [.inr (.inr 23), .inl x1] σ := zM_eq (zat_X2_readFactor) rfl (Nat.le_of_ble_eq_true rfl)
end
section
-- equations: what each method of the image does, from cut to cut (printed by wip/eqs.py)
set_option maxRecDepth 100000 in
theorem qX8_thrown_38_0 (d n : Nat) (σ : zS) : zexec zc_X8_thrown zu_X8_thrown (zM d) (n + 1) 0 [.inr (.inr 38)] σ = some (1, σ 38 0, σ) := ze rfl rfl rfl (zx rfl rfl (y2 rfl (zx rfl rfl (y14 (v := .inl (σ 38 0)) rfl (zx rfl rfl y19)))))
set_option maxRecDepth 100000 in
theorem qX8_thrown_38 (d : Nat) (σ : zS) : zM (d + 1) mX8_thrown [.inr (.inr 38)] σ = zexec zc_X8_thrown zu_X8_thrown (zM d) (999999 + 1) 0 [.inr (.inr 38)] σ := zM_eq (zat_X8_thrown) rfl (Nat.le_of_ble_eq_true rfl)
set_option maxRecDepth 100000 in
theorem qX8_type_38_0 (d n : Nat) (σ : zS) (x3 : Int32) (x1 : Int64) : zexec zc_X8_type zu_X8_type (zM d) (n + 1) 0 [.inr (.inr 38), .inr (.inl x1), .inl x3] σ = if x3 < 1 then (some (1, 0, wr σ 38 0 0)) else (if 8 < x3 then (some (1, 0, wr σ 38 0 0)) else (zexec zc_X8_type zu_X8_type (zM d) n 16 [.inr (.inr 38), .inr (.inl x1), .inl x3] (wr σ 38 0 0))) := ze rfl rfl rfl (zx rfl rfl (y2 rfl (zx rfl rfl (y0 (zx rfl rfl (y15 rfl (zx rfl rfl (y1 rfl (zx rfl rfl (y0 (zx rfl rfl (y36 (zx rfl rfl (y0 (zx rfl rfl (y19l (by decide))))) (zx rfl rfl (y1 rfl (zx rfl rfl (y0 (zx rfl rfl (y37 (zx rfl rfl (y0 (zx rfl rfl (y19l (by decide))))) (zxc rfl rfl rfl rfl)))))))))))))))))))
set_option maxRecDepth 100000 in
theorem qX8_type_38 (d : Nat) (σ : zS) (x3 : Int32) (x1 : Int64) : zM (d + 1) mX8_type [.inr (.inr 38), .inr (.inl x1), .inl x3] σ = zexec zc_X8_type zu_X8_type (zM d) (999999 + 1) 0 [.inr (.inr 38), .inr (.inl x1), .inl x3] σ := zM_eq (zat_X8_type) rfl (Nat.le_of_ble_eq_true rfl)
set_option maxRecDepth 100000 in
theorem qX8_type_38_16 (d n : Nat) (σ : zS) (x3 : Int32) (x1 : Int64) : zexec zc_X8_type zu_X8_type (zM d) (n + 1) 16 [.inr (.inr 38), .inr (.inl x1), .inl x3] σ = if 400 < ((σ 38 2) + x3) then (some (1, 0, σ)) else (zexec zc_X8_type zu_X8_type (zM d) n 33 [.inr (.inr 38), .inr (.inl x1), .inl x3, .inl 0] σ) := ze rfl rfl rfl (zx rfl rfl (y2 rfl (zx rfl rfl (y14 (v := .inl (σ 38 2)) rfl (zx rfl rfl (y1 rfl (zx rfl rfl (y7 (v := (σ 38 2) + x3) rfl (zx rfl rfl (y0 (zx rfl rfl (y37 (zx rfl rfl (y0 (zx rfl rfl (y19l (by decide))))) (zx rfl rfl (y0 (zx rfl rfl (y4 rfl (zxc rfl rfl rfl rfl)))))))))))))))))
set_option maxRecDepth 100000 in
theorem qX8_type_38_33 (d n : Nat) (σ : zS) (x3 x4 : Int32) (x1 : Int64) : zexec zc_X8_type zu_X8_type (zM d) (n + 1) 33 [.inr (.inr 38), .inr (.inl x1), .inl x3, .inl x4] σ = if x4 < x3 then (if (((x1 >>> ((8 * x4).toInt64 &&& 63)) &&& ((255 : Int32).toInt64)).toInt32) < 32 then (some (1, 0, σ)) else (if 126 < (((x1 >>> ((8 * x4).toInt64 &&& 63)) &&& ((255 : Int32).toInt64)).toInt32) then (some (1, 0, σ)) else (zexec zc_X8_type zu_X8_type (zM d) n 33 [.inr (.inr 38), .inr (.inl x1), .inl x3, .inl (x4 + 1)] σ))) else (zexec zc_X8_type zu_X8_type (zM d) n 80 [.inr (.inr 38), .inr (.inl x1), .inl (x3 - 1)] σ) := ze rfl rfl rfl (zx rfl rfl (y1 rfl (zx rfl rfl (y1 rfl (zx rfl rfl (y36 (zx rfl rfl (y3 rfl (zx rfl rfl (y0 (zx rfl rfl (y1 rfl (zx rfl rfl (y7 (v := 8 * x4) rfl (zx rfl rfl (y90 (zx rfl rfl (y26 (zx rfl rfl (y92 (zx rfl rfl (y93 (zx rfl rfl (y4 rfl (zx rfl rfl (y1 rfl (zx rfl rfl (y0 (zx rfl rfl (y36 (zx rfl rfl (y0 (zx rfl rfl (y19l (by decide))))) (zx rfl rfl (y1 rfl (zx rfl rfl (y0 (zx rfl rfl (y37 (zx rfl rfl (y0 (zx rfl rfl (y19l (by decide))))) (zx rfl rfl (y6 rfl rfl (zx rfl rfl (y12 (zxc rfl rfl rfl rfl))))))))))))))))))))))))))))))))))) (zx rfl rfl (y1 rfl (zx rfl rfl (y0 (zx rfl rfl (y7 (v := x3 - 1) rfl (zx rfl rfl (y4 rfl (zxc rfl rfl rfl rfl)))))))))))))))
set_option maxRecDepth 100000 in
theorem qX8_type_38_80 (d n : Nat) (σ : zS) (x4 : Int32) (x1 : Int64) : zexec zc_X8_type zu_X8_type (zM d) (n + 1) 80 [.inr (.inr 38), .inr (.inl x1), .inl x4] σ = if x4 < 0 then (some (1, 1, σ)) else (if (σ 38 2) < 0 ∨ 400 ≤ (σ 38 2).toNatClampNeg then (none) else (zexec zc_X8_type zu_X8_type (zM d) n 80 [.inr (.inr 38), .inr (.inl x1), .inl (x4 + (-1))] (wr (wr σ 39 ((σ 38 2).toNatClampNeg) (((x1 >>> ((8 * x4).toInt64 &&& 63)) &&& ((255 : Int32).toInt64)).toInt32)) 38 2 ((σ 38 2) + 1)))) := ze rfl rfl rfl (zx rfl rfl (y1 rfl (zx rfl rfl (y33 (zx rfl rfl (y0 (zx rfl rfl (y19l (by decide))))) (zx rfl rfl (y2 rfl (zx rfl rfl (y14 (v := .inr (.inr 39)) rfl (zx rfl rfl (y2 rfl (zx rfl rfl (y14 (v := .inl (σ 38 2)) rfl (zx rfl rfl (y3 rfl (zx rfl rfl (y0 (zx rfl rfl (y1 rfl (zx rfl rfl (y7 (v := 8 * x4) rfl (zx rfl rfl (y90 (zx rfl rfl (y26 (zx rfl rfl (y92 (zx rfl rfl (y93 (zx rfl rfl (y17 rfl (zx rfl rfl (y2 rfl (zx rfl rfl (y21 rfl (zx rfl rfl (y14 (v := .inl (σ 38 2)) rfl (zx rfl rfl (y0 (zx rfl rfl (y7 (v := (σ 38 2) + 1) rfl (zx rfl rfl (y15 rfl (zx rfl rfl (y6 rfl rfl (zx rfl rfl (y12 (zxc rfl rfl rfl rfl)))))))))))))))))))))))))))))))))))))))))))))))
set_option maxRecDepth 100000 in
theorem qX8_program_38_0 (d n : Nat) (σ : zS) : zexec zc_X8_program zu_X8_program (zM d) (n + 1) 0 [.inr (.inr 38)] σ = zbV (zM d mX8_tokenize [.inr (.inr 38)] (wr σ 38 3 (-1))) (fun s1 => if (1 - (s1 38 10)) < 0 ∨ 2 ≤ (1 - (s1 38 10)).toNatClampNeg then (none) else (zbI (zM d mX8_readList [.inr (.inr 38)] (wr (wr (wr (wr (wr s1 38 2 0) 38 8 0) 38 9 0) 38 14 0) 44 ((1 - (s1 38 10)).toNatClampNeg) 0)) (fun r2 s2 => if r2 = 0 then (zbI (zM d mX8_raise [.inr (.inr 38), .inl 1] s2) (fun r3 s3 => some (1, r3, s3))) else (if (s2 38 8) < 0 ∨ 402 ≤ (s2 38 8).toNatClampNeg then (none) else (if (s2 40 ((s2 38 8).toNatClampNeg)) = 0 then (if (1 - (s2 38 10)) < 0 ∨ 2 ≤ (1 - (s2 38 10)).toNatClampNeg then (none) else (some (1, s2 38 14, wr (wr (wr (wr s2 38 0 0) 43 ((1 - (s2 38 10)).toNatClampNeg) (s2 38 41)) 38 10 (1 - (s2 38 10))) 38 11 1))) else (zbI (zM d mX8_refuse [.inr (.inr 38)] s2) (fun r4 s4 => if r4 = 0 then (zbI (zM d mX8_raise [.inr (.inr 38), .inl 1] s4) (fun r5 s5 => some (1, r5, s5))) else (if (1 - (s4 38 10)) < 0 ∨ 2 ≤ (1 - (s4 38 10)).toNatClampNeg then (none) else (some (1, s4 38 14, wr (wr (wr (wr s4 38 0 0) 43 ((1 - (s4 38 10)).toNatClampNeg) (s4 38 41)) 38 10 (1 - (s4 38 10))) 38 11 1)))))))))) := ze rfl rfl rfl (zx rfl rfl (y2 rfl (zx rfl rfl (y0 (zx rfl rfl (y15 rfl (zx rfl rfl (y2 rfl (zx rfl rfl (y30 (r := []) rfl rfl rfl rfl rfl (fun s1 => zx rfl rfl (y2 rfl (zx rfl rfl (y0 (zx rfl rfl (y15 rfl (zx rfl rfl (y2 rfl (zx rfl rfl (y0 (zx rfl rfl (y15 rfl (zx rfl rfl (y2 rfl (zx rfl rfl (y0 (zx rfl rfl (y15 rfl (zx rfl rfl (y2 rfl (zx rfl rfl (y0 (zx rfl rfl (y15 rfl (zx rfl rfl (y2 rfl (zx rfl rfl (y14 (v := .inr (.inr 44)) rfl (zx rfl rfl (y0 (zx rfl rfl (y2 rfl (zx rfl rfl (y14 (v := .inl (s1 38 10)) rfl (zx rfl rfl (y7 (v := 1 - (s1 38 10)) rfl (zx rfl rfl (y0 (zx rfl rfl (y17 rfl (zx rfl rfl (y2 rfl (zx rfl rfl (y18 (r := []) rfl rfl rfl rfl rfl (fun r2 s2 => zx rfl rfl (y32 (zx rfl rfl (y0 (zx rfl rfl (y4 rfl (zx rfl rfl (y1 rfl (zx rfl rfl ((y32 rfl rfl).trans (yif (by decide) (zx rfl rfl (y2 rfl (zx rfl rfl (y0 (zx rfl rfl (y18 (r := []) rfl rfl rfl rfl rfl (fun r3 s3 => zx rfl rfl y19)))))))))))))))) (zx rfl rfl (y2 rfl (zx rfl rfl (y14 (v := .inr (.inr 40)) rfl (zx rfl rfl (y2 rfl (zx rfl rfl (y14 (v := .inl (s2 38 8)) rfl (zx rfl rfl (y16 (v := s2 40 ((s2 38 8).toNatClampNeg)) rfl rfl (zx rfl rfl (y32 (zx rfl rfl (y0 (zx rfl rfl (y12 (zx rfl rfl (y4 rfl (zx rfl rfl (y1 rfl (zx rfl rfl ((y32 rfl rfl).trans (yel (by decide) (zx rfl rfl (y2 rfl (zx rfl rfl (y0 (zx rfl rfl (y15 rfl (zx rfl rfl (y2 rfl (zx rfl rfl (y14 (v := .inr (.inr 43)) rfl (zx rfl rfl (y0 (zx rfl rfl (y2 rfl (zx rfl rfl (y14 (v := .inl (s2 38 10)) rfl (zx rfl rfl (y7 (v := 1 - (s2 38 10)) rfl (zx rfl rfl (y2 rfl (zx rfl rfl (y14 (v := .inl (s2 38 41)) rfl (zx rfl rfl (y17 rfl (zx rfl rfl (y2 rfl (zx rfl rfl (y0 (zx rfl rfl (y2 rfl (zx rfl rfl (y14 (v := .inl (s2 38 10)) rfl (zx rfl rfl (y7 (v := 1 - (s2 38 10)) rfl (zx rfl rfl (y15 rfl (zx rfl rfl (y2 rfl (zx rfl rfl (y0 (zx rfl rfl (y31l rfl (by decide) (zx rfl rfl (y2 rfl (zx rfl rfl (y14 (v := .inl (s2 38 14)) rfl (zx rfl rfl y19)))))))))))))))))))))))))))))))))))))))))))))))))))))))))) (zx rfl rfl (y2 rfl (zx rfl rfl (y18 (r := []) rfl rfl rfl rfl rfl (fun r4 s4 => zx rfl rfl (y32 (zx rfl rfl (y0 (zx rfl rfl (y4 rfl (zx rfl rfl (y1 rfl (zx rfl rfl ((y32 rfl rfl).trans (yif (by decide) (zx rfl rfl (y2 rfl (zx rfl rfl (y0 (zx rfl rfl (y18 (r := []) rfl rfl rfl rfl rfl (fun r5 s5 => zx rfl rfl y19)))))))))))))))) (zx rfl rfl (y0 (zx rfl rfl (y12 (zx rfl rfl (y4 rfl (zx rfl rfl (y1 rfl (zx rfl rfl ((y32 rfl rfl).trans (yel (by decide) (zx rfl rfl (y2 rfl (zx rfl rfl (y0 (zx rfl rfl (y15 rfl (zx rfl rfl (y2 rfl (zx rfl rfl (y14 (v := .inr (.inr 43)) rfl (zx rfl rfl (y0 (zx rfl rfl (y2 rfl (zx rfl rfl (y14 (v := .inl (s4 38 10)) rfl (zx rfl rfl (y7 (v := 1 - (s4 38 10)) rfl (zx rfl rfl (y2 rfl (zx rfl rfl (y14 (v := .inl (s4 38 41)) rfl (zx rfl rfl (y17 rfl (zx rfl rfl (y2 rfl (zx rfl rfl (y0 (zx rfl rfl (y2 rfl (zx rfl rfl (y14 (v := .inl (s4 38 10)) rfl (zx rfl rfl (y7 (v := 1 - (s4 38 10)) rfl (zx rfl rfl (y15 rfl (zx rfl rfl (y2 rfl (zx rfl rfl (y0 (zx rfl rfl (y31l rfl (by decide) (zx rfl rfl (y2 rfl (zx rfl rfl (y14 (v := .inl (s4 38 14)) rfl (zx rfl rfl y19))))))))))))))))))))))))))))))))))))))))))))))))))))))))))))))))))))))))))))))))))))))))))))))))))))))))))))))))))))))))))))))))))))
set_option maxRecDepth 100000 in
theorem qX8_program_38 (d : Nat) (σ : zS) : zM (d + 1) mX8_program [.inr (.inr 38)] σ = zexec zc_X8_program zu_X8_program (zM d) (999999 + 1) 0 [.inr (.inr 38)] σ := zM_eq (zat_X8_program) rfl (Nat.le_of_ble_eq_true rfl)
set_option maxRecDepth 100000 in
theorem qX8_fault_38_0 (d n : Nat) (σ : zS) : zexec zc_X8_fault zu_X8_fault (zM d) (n + 1) 0 [.inr (.inr 38)] σ = some (1, σ 38 3, wr σ 38 0 0) := ze rfl rfl rfl (zx rfl rfl (y2 rfl (zx rfl rfl (y0 (zx rfl rfl (y15 rfl (zx rfl rfl (y2 rfl (zx rfl rfl (y14 (v := .inl (σ 38 3)) rfl (zx rfl rfl y19)))))))))))
set_option maxRecDepth 100000 in
theorem qX8_fault_38 (d : Nat) (σ : zS) : zM (d + 1) mX8_fault [.inr (.inr 38)] σ = zexec zc_X8_fault zu_X8_fault (zM d) (999999 + 1) 0 [.inr (.inr 38)] σ := zM_eq (zat_X8_fault) rfl (Nat.le_of_ble_eq_true rfl)
set_option maxRecDepth 100000 in
theorem qX8_decide_38_0 (d n : Nat) (σ : zS) (x1 : Int32) : zexec zc_X8_decide zu_X8_decide (zM d) (n + 1) 0 [.inr (.inr 38), .inl x1] σ = if (σ 38 11) = 0 then (zbI (zM d mX8_raise [.inr (.inr 38), .inl 1] (wr (wr σ 38 29 (-1)) 38 28 1)) (fun r1 s1 => some (1, r1, s1))) else (zbV (zM d mX8_run [.inr (.inr 38)] (wr (wr (wr σ 38 29 (-1)) 38 28 1) 38 39 x1)) (fun s2 => if (s2 38 31) = 9 then (zexec zc_X8_decide zu_X8_decide (zM d) n 109 [.inr (.inr 38), .inl (((s2 38 35) - (s2 38 20)) - 1), .inl 0] (wr (wr (wr s2 38 28 0) 38 0 0) 38 20 (s2 38 35))) else (if (s2 38 31) = 2 then (if (s2 38 31) = 0 then (zexec zc_X8_decide zu_X8_decide (zM d) n 109 [.inr (.inr 38), .inl (((s2 38 35) - (s2 38 20)) - 1), .inl 0] (wr (wr (wr (wr s2 38 28 (s2 38 31)) 38 29 (s2 38 40)) 38 0 0) 38 20 (s2 38 35))) else (zbI (zM d mX8_raise [.inr (.inr 38), .inl 1] (wr (wr s2 38 28 (s2 38 31)) 38 29 (s2 38 40))) (fun r3 s3 => some (1, r3, s3)))) else (if (s2 38 31) = 0 then (zexec zc_X8_decide zu_X8_decide (zM d) n 109 [.inr (.inr 38), .inl (((s2 38 35) - (s2 38 20)) - 1), .inl 0] (wr (wr (wr s2 38 28 (s2 38 31)) 38 0 0) 38 20 (s2 38 35))) else (zbI (zM d mX8_raise [.inr (.inr 38), .inl 1] (wr s2 38 28 (s2 38 31))) (fun r4 s4 => some (1, r4, s4))))))) := ze rfl rfl rfl (zx rfl rfl (y2 rfl (zx rfl rfl (y0 (zx rfl rfl (y15 rfl (zx rfl rfl (y2 rfl (zx rfl rfl (y0 (zx rfl rfl (y15 rfl (zx rfl rfl (y2 rfl (zx rfl rfl (y14 (v := .inl (σ 38 11)) rfl (zx rfl rfl (y32 (zx rfl rfl (y2 rfl (zx rfl rfl (y0 (zx rfl rfl (y18 (r := []) rfl rfl rfl rfl rfl (fun r1 s1 => zx rfl rfl y19))))))) (zx rfl rfl (y2 rfl (zx rfl rfl (y1 rfl (zx rfl rfl (y15 rfl (zx rfl rfl (y2 rfl (zx rfl rfl (y30 (r := []) rfl rfl rfl rfl rfl (fun s2 => zx rfl rfl (y2 rfl (zx rfl rfl (y2 rfl (zx rfl rfl (y14 (v := .inl (s2 38 31)) rfl (zx rfl rfl (y0 (zx rfl rfl (y35 (zx rfl rfl (y0 (zx rfl rfl (y12 (zx rfl rfl (y15 rfl (zx rfl rfl (y2 rfl (zx rfl rfl (y14 (v := .inl 0) rfl (zx rfl rfl (y0 (zx rfl rfl ((y35 rfl rfl).trans (yel (by decide) (zx rfl rfl (y2 rfl (zx rfl rfl (y14 (v := .inl 0) rfl (zx rfl rfl ((y32 rfl rfl).trans (yif (by decide) (zx rfl rfl (y2 rfl (zx rfl rfl (y0 (zx rfl rfl (y15 rfl (zx rfl rfl (y2 rfl (zx rfl rfl (y14 (v := .inl (s2 38 35)) rfl (zx rfl rfl (y2 rfl (zx rfl rfl (y14 (v := .inl (s2 38 20)) rfl (zx rfl rfl (y7 (v := (s2 38 35) - (s2 38 20)) rfl (zx rfl rfl (y0 (zx rfl rfl (y7 (v := ((s2 38 35) - (s2 38 20)) - 1) rfl (zx rfl rfl (y4 rfl (zx rfl rfl (y2 rfl (zx rfl rfl (y2 rfl (zx rfl rfl (y14 (v := .inl (s2 38 35)) rfl (zx rfl rfl (y15 rfl (zx rfl rfl (y0 (zx rfl rfl (y4 rfl (zxc rfl rfl rfl rfl))))))))))))))))))))))))))))))))))))))))))))))))))))))))) (zx rfl rfl (y2 rfl (zx rfl rfl (y14 (v := .inl (s2 38 31)) rfl (zx rfl rfl (y15 rfl (zx rfl rfl (y2 rfl (zx rfl rfl (y14 (v := .inl (s2 38 31)) rfl (zx rfl rfl (y0 (zx rfl rfl (y35 (zx rfl rfl (y2 rfl (zx rfl rfl (y2 rfl (zx rfl rfl (y14 (v := .inl (s2 38 40)) rfl (zx rfl rfl (y15 rfl (zx rfl rfl (y2 rfl (zx rfl rfl (y14 (v := .inl (s2 38 31)) rfl (zx rfl rfl (y32 (zx rfl rfl (y2 rfl (zx rfl rfl (y0 (zx rfl rfl (y15 rfl (zx rfl rfl (y2 rfl (zx rfl rfl (y14 (v := .inl (s2 38 35)) rfl (zx rfl rfl (y2 rfl (zx rfl rfl (y14 (v := .inl (s2 38 20)) rfl (zx rfl rfl (y7 (v := (s2 38 35) - (s2 38 20)) rfl (zx rfl rfl (y0 (zx rfl rfl (y7 (v := ((s2 38 35) - (s2 38 20)) - 1) rfl (zx rfl rfl (y4 rfl (zx rfl rfl (y2 rfl (zx rfl rfl (y2 rfl (zx rfl rfl (y14 (v := .inl (s2 38 35)) rfl (zx rfl rfl (y15 rfl (zx rfl rfl (y0 (zx rfl rfl (y4 rfl (zxc rfl rfl rfl rfl))))))))))))))))))))))))))))))))))) (zx rfl rfl (y2 rfl (zx rfl rfl (y0 (zx rfl rfl (y18 (r := []) rfl rfl rfl rfl rfl (fun r3 s3 => zx rfl rfl y19))))))))))))))))))))) (zx rfl rfl (y2 rfl (zx rfl rfl (y14 (v := .inl (s2 38 31)) rfl (zx rfl rfl (y32 (zx rfl rfl (y2 rfl (zx rfl rfl (y0 (zx rfl rfl (y15 rfl (zx rfl rfl (y2 rfl (zx rfl rfl (y14 (v := .inl (s2 38 35)) rfl (zx rfl rfl (y2 rfl (zx rfl rfl (y14 (v := .inl (s2 38 20)) rfl (zx rfl rfl (y7 (v := (s2 38 35) - (s2 38 20)) rfl (zx rfl rfl (y0 (zx rfl rfl (y7 (v := ((s2 38 35) - (s2 38 20)) - 1) rfl (zx rfl rfl (y4 rfl (zx rfl rfl (y2 rfl (zx rfl rfl (y2 rfl (zx rfl rfl (y14 (v := .inl (s2 38 35)) rfl (zx rfl rfl (y15 rfl (zx rfl rfl (y0 (zx rfl rfl (y4 rfl (zxc rfl rfl rfl rfl))))))))))))))))))))))))))))))))))) (zx rfl rfl (y2 rfl (zx rfl rfl (y0 (zx rfl rfl (y18 (r := []) rfl rfl rfl rfl rfl (fun r4 s4 => zx rfl rfl y19)))))))))))))))))))))))))))))))))))))))))))))))))))))))))))))))))
set_option maxRecDepth 100000 in
theorem qX8_decide_38 (d : Nat) (σ : zS) (x1 : Int32) : zM (d + 1) mX8_decide [.inr (.inr 38), .inl x1] σ = zexec zc_X8_decide zu_X8_decide (zM d) (999999 + 1) 0 [.inr (.inr 38), .inl x1] σ := zM_eq (zat_X8_decide) rfl (Nat.le_of_ble_eq_true rfl)
set_option maxRecDepth 100000 in
theorem qX8_decide_38_109 (d n : Nat) (σ : zS) (x2 x3 : Int32) : zexec zc_X8_decide zu_X8_decide (zM d) (n + 1) 109 [.inr (.inr 38), .inl x2, .inl x3] σ = if x3 < 8 then (if x3 < 0 ∨ 8 ≤ x3.toNatClampNeg then (none) else (if x3 < 0 ∨ 8 ≤ x3.toNatClampNeg then (none) else (zexec zc_X8_decide zu_X8_decide (zM d) n 109 [.inr (.inr 38), .inl x2, .inl (x3 + 1)] (wr σ 53 x3.toNatClampNeg (σ 54 x3.toNatClampNeg))))) else (if (σ 38 38) = 0 then (some (1, x2, wr (wr (wr σ 38 25 0) 38 26 (σ 38 36)) 38 27 (σ 38 37))) else (some (1, x2, wr (wr (wr σ 38 25 1) 38 26 (σ 38 36)) 38 27 (σ 38 37)))) := ze rfl rfl rfl (zx rfl rfl (y1 rfl (zx rfl rfl (y0 (zx rfl rfl (y36 (zx rfl rfl (y2 rfl (zx rfl rfl (y14 (v := .inr (.inr 53)) rfl (zx rfl rfl (y1 rfl (zx rfl rfl (y2 rfl (zx rfl rfl (y14 (v := .inr (.inr 54)) rfl (zx rfl rfl (y1 rfl (zx rfl rfl (y16 (v := σ 54 x3.toNatClampNeg) rfl rfl (zx rfl rfl (y17 rfl (zx rfl rfl (y6 rfl rfl (zx rfl rfl (y12 (zxc rfl rfl rfl rfl))))))))))))))))))))) (zx rfl rfl (y2 rfl (zx rfl rfl (y2 rfl (zx rfl rfl (y14 (v := .inl (σ 38 38)) rfl (zx rfl rfl (y32 (zx rfl rfl (y0 (zx rfl rfl (y15 rfl (zx rfl rfl (y2 rfl (zx rfl rfl (y2 rfl (zx rfl rfl (y14 (v := .inl (σ 38 36)) rfl (zx rfl rfl (y15 rfl (zx rfl rfl (y2 rfl (zx rfl rfl (y2 rfl (zx rfl rfl (y14 (v := .inl (σ 38 37)) rfl (zx rfl rfl (y15 rfl (zx rfl rfl (y1 rfl (zx rfl rfl y19))))))))))))))))))))))) (zx rfl rfl (y0 (zx rfl rfl (y12 (zx rfl rfl (y15 rfl (zx rfl rfl (y2 rfl (zx rfl rfl (y2 rfl (zx rfl rfl (y14 (v := .inl (σ 38 36)) rfl (zx rfl rfl (y15 rfl (zx rfl rfl (y2 rfl (zx rfl rfl (y2 rfl (zx rfl rfl (y14 (v := .inl (σ 38 37)) rfl (zx rfl rfl (y15 rfl (zx rfl rfl (y1 rfl (zx rfl rfl y19)))))))))))))))))))))))))))))))))))))))
set_option maxRecDepth 100000 in
theorem qX8_refused_38_0 (d n : Nat) (σ : zS) : zexec zc_X8_refused zu_X8_refused (zM d) (n + 1) 0 [.inr (.inr 38)] σ = some (1, σ 38 28, wr σ 38 0 0) := ze rfl rfl rfl (zx rfl rfl (y2 rfl (zx rfl rfl (y0 (zx rfl rfl (y15 rfl (zx rfl rfl (y2 rfl (zx rfl rfl (y14 (v := .inl (σ 38 28)) rfl (zx rfl rfl y19)))))))))))
set_option maxRecDepth 100000 in
theorem qX8_refused_38 (d : Nat) (σ : zS) : zM (d + 1) mX8_refused [.inr (.inr 38)] σ = zexec zc_X8_refused zu_X8_refused (zM d) (999999 + 1) 0 [.inr (.inr 38)] σ := zM_eq (zat_X8_refused) rfl (Nat.le_of_ble_eq_true rfl)
set_option maxRecDepth 100000 in
theorem qX8_differs_38_0 (d n : Nat) (σ : zS) : zexec zc_X8_differs zu_X8_differs (zM d) (n + 1) 0 [.inr (.inr 38)] σ = some (1, σ 38 29, wr σ 38 0 0) := ze rfl rfl rfl (zx rfl rfl (y2 rfl (zx rfl rfl (y0 (zx rfl rfl (y15 rfl (zx rfl rfl (y2 rfl (zx rfl rfl (y14 (v := .inl (σ 38 29)) rfl (zx rfl rfl y19)))))))))))
set_option maxRecDepth 100000 in
theorem qX8_differs_38 (d : Nat) (σ : zS) : zM (d + 1) mX8_differs [.inr (.inr 38)] σ = zexec zc_X8_differs zu_X8_differs (zM d) (999999 + 1) 0 [.inr (.inr 38)] σ := zM_eq (zat_X8_differs) rfl (Nat.le_of_ble_eq_true rfl)
set_option maxRecDepth 100000 in
theorem qX8_happen_38_0 (d n : Nat) (σ : zS) (x1 x2 x3 : Int32) : zexec zc_X8_happen zu_X8_happen (zM d) (n + 1) 0 [.inr (.inr 38), .inl x1, .inl x2, .inl x3] σ = if (σ 38 20) < 200 then (if x1 < 5 then (zexec zc_X8_happen zu_X8_happen (zM d) n 45 [.inr (.inr 38), .inl x1, .inl x2, .inl x3] (wr σ 38 0 0)) else (if 8 < x1 then (zexec zc_X8_happen zu_X8_happen (zM d) n 45 [.inr (.inr 38), .inl x1, .inl x2, .inl x3] (wr σ 38 0 0)) else (if x1 = 5 then (zexec zc_X8_happen zu_X8_happen (zM d) n 41 [.inr (.inr 38), .inl x1, .inl x2, .inl x3] (wr σ 38 0 0)) else (if x1 = 8 then (zexec zc_X8_happen zu_X8_happen (zM d) n 41 [.inr (.inr 38), .inl x1, .inl x2, .inl x3] (wr σ 38 0 0)) else (if x3 = 0 then (zexec zc_X8_happen zu_X8_happen (zM d) n 41 [.inr (.inr 38), .inl x1, .inl x2, .inl x3] (wr σ 38 0 0)) else (zexec zc_X8_happen zu_X8_happen (zM d) n 45 [.inr (.inr 38), .inl x1, .inl x2, .inl x3] (wr σ 38 0 0))))))) else (zexec zc_X8_happen zu_X8_happen (zM d) n 45 [.inr (.inr 38), .inl x1, .inl x2, .inl x3] (wr σ 38 0 0)) := ze rfl rfl rfl (zx rfl rfl (y2 rfl (zx rfl rfl (y0 (zx rfl rfl (y15 rfl (zx rfl rfl (y2 rfl (zx rfl rfl (y14 (v := .inl (σ 38 20)) rfl (zx rfl rfl (y0 (zx rfl rfl (y36 (zx rfl rfl (y1 rfl (zx rfl rfl (y0 (zx rfl rfl (y36 (zxc rfl rfl rfl rfl) (zx rfl rfl (y1 rfl (zx rfl rfl (y0 (zx rfl rfl (y37 (zxc rfl rfl rfl rfl) (zx rfl rfl (y1 rfl (zx rfl rfl (y0 (zx rfl rfl (y35 (zxc rfl rfl rfl rfl) (zx rfl rfl (y1 rfl (zx rfl rfl (y0 (zx rfl rfl (y35 (zxc rfl rfl rfl rfl) (zx rfl rfl (y1 rfl (zx rfl rfl (y32 (zxc rfl rfl rfl rfl) (zxc rfl rfl rfl rfl))))))))))))))))))))))))))))) (zxc rfl rfl rfl rfl)))))))))))))))
set_option maxRecDepth 100000 in
theorem qX8_happen_38 (d : Nat) (σ : zS) (x1 x2 x3 : Int32) : zM (d + 1) mX8_happen [.inr (.inr 38), .inl x1, .inl x2, .inl x3] σ = zexec zc_X8_happen zu_X8_happen (zM d) (999999 + 1) 0 [.inr (.inr 38), .inl x1, .inl x2, .inl x3] σ := zM_eq (zat_X8_happen) rfl (Nat.le_of_ble_eq_true rfl)
set_option maxRecDepth 100000 in
theorem qX8_happen_38_41 (d n : Nat) (σ : zS) (x1 x2 x3 : Int32) : zexec zc_X8_happen zu_X8_happen (zM d) (n + 1) 41 [.inr (.inr 38), .inl x1, .inl x2, .inl x3] σ = if x1 = 8 then (if x2 = 0 then (if (σ 38 20) < 0 ∨ 201 ≤ (σ 38 20).toNatClampNeg then (none) else (if (σ 38 20) < 0 ∨ 201 ≤ (σ 38 20).toNatClampNeg then (none) else (if (σ 38 20) < 0 ∨ 201 ≤ (σ 38 20).toNatClampNeg then (none) else (some (1, 1, wr (wr (wr (wr σ 50 ((σ 38 20).toNatClampNeg) x1) 51 ((σ 38 20).toNatClampNeg) x2) 52 ((σ 38 20).toNatClampNeg) x3) 38 20 ((σ 38 20) + 1)))))) else (some (1, 0, σ))) else (if x2 < 0 then (some (1, 0, σ)) else (if x2 < (σ 38 20) then (if x2 < 0 ∨ 201 ≤ x2.toNatClampNeg then (none) else (if x1 = 7 then (if (σ 50 x2.toNatClampNeg) = 2 then (zbI (zM d mX8_isGone [.inr (.inr 38), .inl x2] σ) (fun r1 s1 => if r1 = 0 then (if (s1 38 20) < 0 ∨ 201 ≤ (s1 38 20).toNatClampNeg then (none) else (if (s1 38 20) < 0 ∨ 201 ≤ (s1 38 20).toNatClampNeg then (none) else (if (s1 38 20) < 0 ∨ 201 ≤ (s1 38 20).toNatClampNeg then (none) else (some (1, 1, wr (wr (wr (wr s1 50 ((s1 38 20).toNatClampNeg) x1) 51 ((s1 38 20).toNatClampNeg) x2) 52 ((s1 38 20).toNatClampNeg) x3) 38 20 ((s1 38 20) + 1)))))) else (some (1, 0, s1)))) else (some (1, 0, σ))) else (if (σ 50 x2.toNatClampNeg) = 1 then (zbI (zM d mX8_isGone [.inr (.inr 38), .inl x2] σ) (fun r2 s2 => if r2 = 0 then (if (s2 38 20) < 0 ∨ 201 ≤ (s2 38 20).toNatClampNeg then (none) else (if (s2 38 20) < 0 ∨ 201 ≤ (s2 38 20).toNatClampNeg then (none) else (if (s2 38 20) < 0 ∨ 201 ≤ (s2 38 20).toNatClampNeg then (none) else (some (1, 1, wr (wr (wr (wr s2 50 ((s2 38 20).toNatClampNeg) x1) 51 ((s2 38 20).toNatClampNeg) x2) 52 ((s2 38 20).toNatClampNeg) x3) 38 20 ((s2 38 20) + 1)))))) else (some (1, 0, s2)))) else (some (1, 0, σ))))) else (some (1, 0, σ)))) := ze rfl rfl rfl (zx rfl rfl (y0 (zx rfl rfl (y12 (zx rfl rfl (y4 rfl (zx rfl rfl (y1 rfl (zx rfl rfl (y0 (zx rfl rfl (y35 (zx rfl rfl (y1 rfl (zx rfl rfl ((y32 rfl rfl).trans (yel (by decide) (zx rfl rfl (y1 rfl (zx rfl rfl (y32 (zx rfl rfl (y0 (zx rfl rfl (y12 (zx rfl rfl (y4 rfl (zx rfl rfl (y12 (zx rfl rfl (y1 rfl (zx rfl rfl ((y32 rfl rfl).trans (yel (by decide) (zx rfl rfl (y2 rfl (zx rfl rfl (y14 (v := .inr (.inr 50)) rfl (zx rfl rfl (y2 rfl (zx rfl rfl (y14 (v := .inl (σ 38 20)) rfl (zx rfl rfl (y1 rfl (zx rfl rfl (y17 rfl (zx rfl rfl (y2 rfl (zx rfl rfl (y14 (v := .inr (.inr 51)) rfl (zx rfl rfl (y2 rfl (zx rfl rfl (y14 (v := .inl (σ 38 20)) rfl (zx rfl rfl (y1 rfl (zx rfl rfl (y17 rfl (zx rfl rfl (y2 rfl (zx rfl rfl (y14 (v := .inr (.inr 52)) rfl (zx rfl rfl (y2 rfl (zx rfl rfl (y14 (v := .inl (σ 38 20)) rfl (zx rfl rfl (y1 rfl (zx rfl rfl (y17 rfl (zx rfl rfl (y2 rfl (zx rfl rfl (y21 rfl (zx rfl rfl (y14 (v := .inl (σ 38 20)) rfl (zx rfl rfl (y0 (zx rfl rfl (y7 (v := (σ 38 20) + 1) rfl (zx rfl rfl (y15 rfl (zx rfl rfl (y0 (zx rfl rfl (y19l (by decide)))))))))))))))))))))))))))))))))))))))))))))))))))))))))))))))))) (zx rfl rfl (y0 (zx rfl rfl (y4 rfl (zx rfl rfl (y12 (zx rfl rfl (y1 rfl (zx rfl rfl ((y32 rfl rfl).trans (yif (by decide) (zx rfl rfl (y0 (zx rfl rfl (y19l (by decide))))))))))))))))))))))))) (zx rfl rfl (y1 rfl (zx rfl rfl ((y32 rfl rfl).trans (yel (by decide) (zx rfl rfl (y1 rfl (zx rfl rfl (y33 (zx rfl rfl (y0 (zx rfl rfl (y4 rfl (zx rfl rfl (y1 rfl (zx rfl rfl ((y32 rfl rfl).trans (yif (by decide) (zx rfl rfl (y0 (zx rfl rfl (y19l (by decide)))))))))))))) (zx rfl rfl (y1 rfl (zx rfl rfl (y2 rfl (zx rfl rfl (y14 (v := .inl (σ 38 20)) rfl (zx rfl rfl (y36 (zx rfl rfl (y2 rfl (zx rfl rfl (y14 (v := .inr (.inr 50)) rfl (zx rfl rfl (y1 rfl (zx rfl rfl (y16 (v := σ 50 x2.toNatClampNeg) rfl rfl (zx rfl rfl (y1 rfl (zx rfl rfl (y0 (zx rfl rfl (y35 (zx rfl rfl (y0 (zx rfl rfl (y12 (zx rfl rfl (y35 (zx rfl rfl (y2 rfl (zx rfl rfl (y1 rfl (zx rfl rfl (y18 (r := []) rfl rfl rfl rfl rfl (fun r1 s1 => zx rfl rfl (y32 (zx rfl rfl (y0 (zx rfl rfl (y12 (zx rfl rfl (y4 rfl (zx rfl rfl (y1 rfl (zx rfl rfl ((y32 rfl rfl).trans (yel (by decide) (zx rfl rfl (y2 rfl (zx rfl rfl (y14 (v := .inr (.inr 50)) rfl (zx rfl rfl (y2 rfl (zx rfl rfl (y14 (v := .inl (s1 38 20)) rfl (zx rfl rfl (y1 rfl (zx rfl rfl (y17 rfl (zx rfl rfl (y2 rfl (zx rfl rfl (y14 (v := .inr (.inr 51)) rfl (zx rfl rfl (y2 rfl (zx rfl rfl (y14 (v := .inl (s1 38 20)) rfl (zx rfl rfl (y1 rfl (zx rfl rfl (y17 rfl (zx rfl rfl (y2 rfl (zx rfl rfl (y14 (v := .inr (.inr 52)) rfl (zx rfl rfl (y2 rfl (zx rfl rfl (y14 (v := .inl (s1 38 20)) rfl (zx rfl rfl (y1 rfl (zx rfl rfl (y17 rfl (zx rfl rfl (y2 rfl (zx rfl rfl (y21 rfl (zx rfl rfl (y14 (v := .inl (s1 38 20)) rfl (zx rfl rfl (y0 (zx rfl rfl (y7 (v := (s1 38 20) + 1) rfl (zx rfl rfl (y15 rfl (zx rfl rfl (y0 (zx rfl rfl (y19l (by decide)))))))))))))))))))))))))))))))))))))))))))))))))))))))))))))))) (zx rfl rfl (y0 (zx rfl rfl (y4 rfl (zx rfl rfl (y1 rfl (zx rfl rfl ((y32 rfl rfl).trans (yif (by decide) (zx rfl rfl (y0 (zx rfl rfl (y19l (by decide)))))))))))))))))))))) (zx rfl rfl (y0 (zx rfl rfl (y4 rfl (zx rfl rfl (y1 rfl (zx rfl rfl ((y32 rfl rfl).trans (yif (by decide) (zx rfl rfl (y0 (zx rfl rfl (y19l (by decide)))))))))))))))))))) (zx rfl rfl (y0 (zx rfl rfl (y35 (zx rfl rfl (y2 rfl (zx rfl rfl (y1 rfl (zx rfl rfl (y18 (r := []) rfl rfl rfl rfl rfl (fun r2 s2 => zx rfl rfl (y32 (zx rfl rfl (y0 (zx rfl rfl (y12 (zx rfl rfl (y4 rfl (zx rfl rfl (y1 rfl (zx rfl rfl ((y32 rfl rfl).trans (yel (by decide) (zx rfl rfl (y2 rfl (zx rfl rfl (y14 (v := .inr (.inr 50)) rfl (zx rfl rfl (y2 rfl (zx rfl rfl (y14 (v := .inl (s2 38 20)) rfl (zx rfl rfl (y1 rfl (zx rfl rfl (y17 rfl (zx rfl rfl (y2 rfl (zx rfl rfl (y14 (v := .inr (.inr 51)) rfl (zx rfl rfl (y2 rfl (zx rfl rfl (y14 (v := .inl (s2 38 20)) rfl (zx rfl rfl (y1 rfl (zx rfl rfl (y17 rfl (zx rfl rfl (y2 rfl (zx rfl rfl (y14 (v := .inr (.inr 52)) rfl (zx rfl rfl (y2 rfl (zx rfl rfl (y14 (v := .inl (s2 38 20)) rfl (zx rfl rfl (y1 rfl (zx rfl rfl (y17 rfl (zx rfl rfl (y2 rfl (zx rfl rfl (y21 rfl (zx rfl rfl (y14 (v := .inl (s2 38 20)) rfl (zx rfl rfl (y0 (zx rfl rfl (y7 (v := (s2 38 20) + 1) rfl (zx rfl rfl (y15 rfl (zx rfl rfl (y0 (zx rfl rfl (y19l (by decide)))))))))))))))))))))))))))))))))))))))))))))))))))))))))))))))) (zx rfl rfl (y0 (zx rfl rfl (y4 rfl (zx rfl rfl (y1 rfl (zx rfl rfl ((y32 rfl rfl).trans (yif (by decide) (zx rfl rfl (y0 (zx rfl rfl (y19l (by decide)))))))))))))))))))))) (zx rfl rfl (y0 (zx rfl rfl (y4 rfl (zx rfl rfl (y1 rfl (zx rfl rfl ((y32 rfl rfl).trans (yif (by decide) (zx rfl rfl (y0 (zx rfl rfl (y19l (by decide)))))))))))))))))))))))))))))))) (zx rfl rfl (y0 (zx rfl rfl (y4 rfl (zx rfl rfl (y1 rfl (zx rfl rfl ((y32 rfl rfl).trans (yif (by decide) (zx rfl rfl (y0 (zx rfl rfl (y19l (by decide)))))))))))))))))))))))))))))))))))))))))))
set_option maxRecDepth 100000 in
theorem qX8_happen_38_45 (d n : Nat) (σ : zS) (x1 x2 x3 : Int32) : zexec zc_X8_happen zu_X8_happen (zM d) (n + 1) 45 [.inr (.inr 38), .inl x1, .inl x2, .inl x3] σ = if x1 = 8 then (some (1, 0, σ)) else (some (1, 0, σ)) := ze rfl rfl rfl (zx rfl rfl (y0 (zx rfl rfl (y4 rfl (zx rfl rfl (y1 rfl (zx rfl rfl (y0 (zx rfl rfl (y35 (zx rfl rfl (y1 rfl (zx rfl rfl ((y32 rfl rfl).trans (yif (by decide) (zx rfl rfl (y0 (zx rfl rfl (y4 rfl (zx rfl rfl (y12 (zx rfl rfl (y1 rfl (zx rfl rfl ((y32 rfl rfl).trans (yif (by decide) (zx rfl rfl (y0 (zx rfl rfl (y19l (by decide))))))))))))))))))))) (zx rfl rfl (y1 rfl (zx rfl rfl ((y32 rfl rfl).trans (yif (by decide) (zx rfl rfl (y0 (zx rfl rfl (y4 rfl (zx rfl rfl (y1 rfl (zx rfl rfl ((y32 rfl rfl).trans (yif (by decide) (zx rfl rfl (y0 (zx rfl rfl (y19l (by decide)))))))))))))))))))))))))))))
set_option maxRecDepth 100000 in
theorem qX8_crash_38_0 (d n : Nat) (σ : zS) : zexec zc_X8_crash zu_X8_crash (zM d) (n + 1) 0 [.inr (.inr 38)] σ = some (0, 0, wr σ 38 0 0) := ze rfl rfl rfl (zx rfl rfl (y2 rfl (zx rfl rfl (y0 (zx rfl rfl (y15 rfl (zx rfl rfl y20)))))))
set_option maxRecDepth 100000 in
theorem qX8_crash_38 (d : Nat) (σ : zS) : zM (d + 1) mX8_crash [.inr (.inr 38)] σ = zexec zc_X8_crash zu_X8_crash (zM d) (999999 + 1) 0 [.inr (.inr 38)] σ := zM_eq (zat_X8_crash) rfl (Nat.le_of_ble_eq_true rfl)
set_option maxRecDepth 100000 in
theorem qX8_clear_38_0 (d n : Nat) (σ : zS) : zexec zc_X8_clear zu_X8_clear (zM d) (n + 1) 0 [.inr (.inr 38)] σ = zexec zc_X8_clear zu_X8_clear (zM d) n 12 [.inr (.inr 38), .inl 0] (wr (wr σ 38 0 0) 38 20 0) := ze rfl rfl rfl (zx rfl rfl (y2 rfl (zx rfl rfl (y0 (zx rfl rfl (y15 rfl (zx rfl rfl (y2 rfl (zx rfl rfl (y0 (zx rfl rfl (y15 rfl (zx rfl rfl (y0 (zx rfl rfl (y4 rfl (zxc rfl rfl rfl rfl)))))))))))))))))
set_option maxRecDepth 100000 in
theorem qX8_clear_38 (d : Nat) (σ : zS) : zM (d + 1) mX8_clear [.inr (.inr 38)] σ = zexec zc_X8_clear zu_X8_clear (zM d) (999999 + 1) 0 [.inr (.inr 38)] σ := zM_eq (zat_X8_clear) rfl (Nat.le_of_ble_eq_true rfl)
set_option maxRecDepth 100000 in
theorem qX8_clear_38_12 (d n : Nat) (σ : zS) (x1 : Int32) : zexec zc_X8_clear zu_X8_clear (zM d) (n + 1) 12 [.inr (.inr 38), .inl x1] σ = if x1 < 8 then (if x1 < 0 ∨ 8 ≤ x1.toNatClampNeg then (none) else (zexec zc_X8_clear zu_X8_clear (zM d) n 12 [.inr (.inr 38), .inl (x1 + 1)] (wr σ 53 x1.toNatClampNeg 0))) else (some (0, 0, wr (wr (wr σ 38 25 0) 38 26 0) 38 27 0)) := ze rfl rfl rfl (zx rfl rfl (y1 rfl (zx rfl rfl (y0 (zx rfl rfl (y36 (zx rfl rfl (y2 rfl (zx rfl rfl (y14 (v := .inr (.inr 53)) rfl (zx rfl rfl (y1 rfl (zx rfl rfl (y0 (zx rfl rfl (y17 rfl (zx rfl rfl (y6 rfl rfl (zx rfl rfl (y12 (zxc rfl rfl rfl rfl))))))))))))))) (zx rfl rfl (y2 rfl (zx rfl rfl (y0 (zx rfl rfl (y15 rfl (zx rfl rfl (y2 rfl (zx rfl rfl (y0 (zx rfl rfl (y15 rfl (zx rfl rfl (y2 rfl (zx rfl rfl (y0 (zx rfl rfl (y15 rfl (zx rfl rfl y20)))))))))))))))))))))))))
set_option maxRecDepth 100000 in
theorem qX8_event_38_0 (d n : Nat) (σ : zS) (x1 x2 : Int32) : zexec zc_X8_event zu_X8_event (zM d) (n + 1) 0 [.inr (.inr 38), .inl x1, .inl x2] σ = if x1 < 0 then (some (1, 0, wr σ 38 0 1)) else (if x1 < (σ 38 20) then (if x2 < 0 then (some (1, 0, wr σ 38 0 1)) else (if 2 < x2 then (some (1, 0, wr σ 38 0 1)) else (if x2 = 0 then (if x1 < 0 ∨ 201 ≤ x1.toNatClampNeg then (none) else (some (1, σ 50 x1.toNatClampNeg, wr σ 38 0 0))) else (if x2 = 1 then (if x1 < 0 ∨ 201 ≤ x1.toNatClampNeg then (none) else (some (1, σ 51 x1.toNatClampNeg, wr σ 38 0 0))) else (if x1 < 0 ∨ 201 ≤ x1.toNatClampNeg then (none) else (some (1, σ 52 x1.toNatClampNeg, wr σ 38 0 0))))))) else (some (1, 0, wr σ 38 0 1))) := ze rfl rfl rfl (zx rfl rfl (y2 rfl (zx rfl rfl (y1 rfl (zx rfl rfl (y33 (zx rfl rfl (y0 (zx rfl rfl (y12 (zx rfl rfl (y15 rfl (zx rfl rfl (y2 rfl (zx rfl rfl (y14 (v := .inl 1) rfl (zx rfl rfl ((y34 rfl rfl).trans (yif (by decide) (zx rfl rfl (y0 (zx rfl rfl y19)))))))))))))))) (zx rfl rfl (y1 rfl (zx rfl rfl (y2 rfl (zx rfl rfl (y14 (v := .inl (σ 38 20)) rfl (zx rfl rfl (y36 (zx rfl rfl (y1 rfl (zx rfl rfl (y33 (zx rfl rfl (y0 (zx rfl rfl (y12 (zx rfl rfl (y15 rfl (zx rfl rfl (y2 rfl (zx rfl rfl (y14 (v := .inl 1) rfl (zx rfl rfl ((y34 rfl rfl).trans (yif (by decide) (zx rfl rfl (y0 (zx rfl rfl y19)))))))))))))))) (zx rfl rfl (y1 rfl (zx rfl rfl (y0 (zx rfl rfl (y37 (zx rfl rfl (y0 (zx rfl rfl (y12 (zx rfl rfl (y15 rfl (zx rfl rfl (y2 rfl (zx rfl rfl (y14 (v := .inl 1) rfl (zx rfl rfl ((y34 rfl rfl).trans (yif (by decide) (zx rfl rfl (y0 (zx rfl rfl y19)))))))))))))))) (zx rfl rfl (y0 (zx rfl rfl (y15 rfl (zx rfl rfl (y2 rfl (zx rfl rfl (y14 (v := .inl 0) rfl (zx rfl rfl ((y34 rfl rfl).trans (yel (by decide) (zx rfl rfl (y1 rfl (zx rfl rfl (y32 (zx rfl rfl (y2 rfl (zx rfl rfl (y14 (v := .inr (.inr 50)) rfl (zx rfl rfl (y1 rfl (zx rfl rfl (y16 (v := σ 50 x1.toNatClampNeg) rfl rfl (zx rfl rfl (y12 (zx rfl rfl y19))))))))))) (zx rfl rfl (y1 rfl (zx rfl rfl (y0 (zx rfl rfl (y35 (zx rfl rfl (y2 rfl (zx rfl rfl (y14 (v := .inr (.inr 51)) rfl (zx rfl rfl (y1 rfl (zx rfl rfl (y16 (v := σ 51 x1.toNatClampNeg) rfl rfl (zx rfl rfl (y12 (zx rfl rfl y19))))))))))) (zx rfl rfl (y2 rfl (zx rfl rfl (y14 (v := .inr (.inr 52)) rfl (zx rfl rfl (y1 rfl (zx rfl rfl (y16 (v := σ 52 x1.toNatClampNeg) rfl rfl (zx rfl rfl y19)))))))))))))))))))))))))))))))))))))))) (zx rfl rfl (y0 (zx rfl rfl (y12 (zx rfl rfl (y15 rfl (zx rfl rfl (y2 rfl (zx rfl rfl (y14 (v := .inl 1) rfl (zx rfl rfl ((y34 rfl rfl).trans (yif (by decide) (zx rfl rfl (y0 (zx rfl rfl y19))))))))))))))))))))))))))))))
set_option maxRecDepth 100000 in
theorem qX8_event_38 (d : Nat) (σ : zS) (x1 x2 : Int32) : zM (d + 1) mX8_event [.inr (.inr 38), .inl x1, .inl x2] σ = zexec zc_X8_event zu_X8_event (zM d) (999999 + 1) 0 [.inr (.inr 38), .inl x1, .inl x2] σ := zM_eq (zat_X8_event) rfl (Nat.le_of_ble_eq_true rfl)
set_option maxRecDepth 100000 in
theorem qX8_register_38_0 (d n : Nat) (σ : zS) (x1 : Int32) : zexec zc_X8_register zu_X8_register (zM d) (n + 1) 0 [.inr (.inr 38), .inl x1] σ = if x1 < 0 then (some (1, 0, wr σ 38 0 1)) else (if 7 < x1 then (some (1, 0, wr σ 38 0 1)) else (if x1 < 0 ∨ 8 ≤ x1.toNatClampNeg then (none) else (some (1, σ 53 x1.toNatClampNeg, wr σ 38 0 0)))) := ze rfl rfl rfl (zx rfl rfl (y2 rfl (zx rfl rfl (y1 rfl (zx rfl rfl (y33 (zx rfl rfl (y0 (zx rfl rfl (y12 (zx rfl rfl (y15 rfl (zx rfl rfl (y2 rfl (zx rfl rfl (y14 (v := .inl 1) rfl (zx rfl rfl ((y34 rfl rfl).trans (yif (by decide) (zx rfl rfl (y0 (zx rfl rfl (y12 (zx rfl rfl y19)))))))))))))))))) (zx rfl rfl (y1 rfl (zx rfl rfl (y0 (zx rfl rfl (y37 (zx rfl rfl (y0 (zx rfl rfl (y12 (zx rfl rfl (y15 rfl (zx rfl rfl (y2 rfl (zx rfl rfl (y14 (v := .inl 1) rfl (zx rfl rfl ((y34 rfl rfl).trans (yif (by decide) (zx rfl rfl (y0 (zx rfl rfl (y12 (zx rfl rfl y19)))))))))))))))))) (zx rfl rfl (y0 (zx rfl rfl (y15 rfl (zx rfl rfl (y2 rfl (zx rfl rfl (y14 (v := .inl 0) rfl (zx rfl rfl ((y34 rfl rfl).trans (yel (by decide) (zx rfl rfl (y2 rfl (zx rfl rfl (y14 (v := .inr (.inr 53)) rfl (zx rfl rfl (y1 rfl (zx rfl rfl (y16 (v := σ 53 x1.toNatClampNeg) rfl rfl (zx rfl rfl y19))))))))))))))))))))))))))))))))
set_option maxRecDepth 100000 in
theorem qX8_register_38 (d : Nat) (σ : zS) (x1 : Int32) : zM (d + 1) mX8_register [.inr (.inr 38), .inl x1] σ = zexec zc_X8_register zu_X8_register (zM d) (999999 + 1) 0 [.inr (.inr 38), .inl x1] σ := zM_eq (zat_X8_register) rfl (Nat.le_of_ble_eq_true rfl)
set_option maxRecDepth 100000 in
theorem qX8_total_38_0 (d n : Nat) (σ : zS) (x1 : Int32) : zexec zc_X8_total zu_X8_total (zM d) (n + 1) 0 [.inr (.inr 38), .inl x1] σ = zexec zc_X8_total zu_X8_total (zM d) n 12 [.inr (.inr 38), .inl x1, .inl 0, .inl 0, .inl 0] (wr σ 38 0 0) := ze rfl rfl rfl (zx rfl rfl (y2 rfl (zx rfl rfl (y0 (zx rfl rfl (y15 rfl (zx rfl rfl (y0 (zx rfl rfl (y4 rfl (zx rfl rfl (y0 (zx rfl rfl (y4 rfl (zx rfl rfl (y0 (zx rfl rfl (y4 rfl (zxc rfl rfl rfl rfl)))))))))))))))))))
set_option maxRecDepth 100000 in
theorem qX8_total_38 (d : Nat) (σ : zS) (x1 : Int32) : zM (d + 1) mX8_total [.inr (.inr 38), .inl x1] σ = zexec zc_X8_total zu_X8_total (zM d) (999999 + 1) 0 [.inr (.inr 38), .inl x1] σ := zM_eq (zat_X8_total) rfl (Nat.le_of_ble_eq_true rfl)
set_option maxRecDepth 100000 in
theorem qX8_total_38_12 (d n : Nat) (σ : zS) (x1 x2 x3 x4 : Int32) : zexec zc_X8_total zu_X8_total (zM d) (n + 1) 12 [.inr (.inr 38), .inl x1, .inl x2, .inl x3, .inl x4] σ = if x4 < (σ 38 20) then (if x4 < 0 ∨ 201 ≤ x4.toNatClampNeg then (none) else (if (σ 50 x4.toNatClampNeg) < 1 then (if x4 < 0 ∨ 201 ≤ x4.toNatClampNeg then (none) else (if (σ 50 x4.toNatClampNeg) = 0 then (zexec zc_X8_total zu_X8_total (zM d) n 12 [.inr (.inr 38), .inl x1, .inl (x2 + 0), .inl (x3 + 1), .inl (x4 + 1)] σ) else (zexec zc_X8_total zu_X8_total (zM d) n 12 [.inr (.inr 38), .inl x1, .inl (x2 + 0), .inl (x3 + 0), .inl (x4 + 1)] σ))) else (if x4 < 0 ∨ 201 ≤ x4.toNatClampNeg then (none) else (if 4 < (σ 50 x4.toNatClampNeg) then (if x4 < 0 ∨ 201 ≤ x4.toNatClampNeg then (none) else (if (σ 50 x4.toNatClampNeg) = 0 then (zexec zc_X8_total zu_X8_total (zM d) n 12 [.inr (.inr 38), .inl x1, .inl (x2 + 0), .inl (x3 + 1), .inl (x4 + 1)] σ) else (zexec zc_X8_total zu_X8_total (zM d) n 12 [.inr (.inr 38), .inl x1, .inl (x2 + 0), .inl (x3 + 0), .inl (x4 + 1)] σ))) else (if x4 < 0 ∨ 201 ≤ x4.toNatClampNeg then (none) else (if (σ 50 x4.toNatClampNeg) = 0 then (zexec zc_X8_total zu_X8_total (zM d) n 12 [.inr (.inr 38), .inl x1, .inl (x2 + 1), .inl (x3 + 1), .inl (x4 + 1)] σ) else (zexec zc_X8_total zu_X8_total (zM d) n 12 [.inr (.inr 38), .inl x1, .inl (x2 + 1), .inl (x3 + 0), .inl (x4 + 1)] σ))))))) else (if x1 = 0 then (some (1, σ 38 20, σ)) else (if x1 = 1 then (some (1, x2, σ)) else (if x1 = 2 then (some (1, x3, σ)) else (if x1 = 3 then (some (1, σ 38 25, σ)) else (if x1 = 4 then (some (1, σ 38 26, σ)) else (if x1 = 5 then (some (1, σ 38 27, σ)) else (some (1, (-1), σ)))))))) := ze rfl rfl rfl (zx rfl rfl (y1 rfl (zx rfl rfl (y2 rfl (zx rfl rfl (y14 (v := .inl (σ 38 20)) rfl (zx rfl rfl (y36 (zx rfl rfl (y1 rfl (zx rfl rfl (y2 rfl (zx rfl rfl (y14 (v := .inr (.inr 50)) rfl (zx rfl rfl (y1 rfl (zx rfl rfl (y16 (v := σ 50 x4.toNatClampNeg) rfl rfl (zx rfl rfl (y0 (zx rfl rfl (y36 (zx rfl rfl (y0 (zx rfl rfl (y7 (v := x2 + 0) rfl (zx rfl rfl (y4 rfl (zx rfl rfl (y1 rfl (zx rfl rfl (y2 rfl (zx rfl rfl (y14 (v := .inr (.inr 50)) rfl (zx rfl rfl (y1 rfl (zx rfl rfl (y16 (v := σ 50 x4.toNatClampNeg) rfl rfl (zx rfl rfl (y32 (zx rfl rfl (y0 (zx rfl rfl (y12 (zx rfl rfl (y7 (v := x3 + 1) rfl (zx rfl rfl (y4 rfl (zx rfl rfl (y6 rfl rfl (zx rfl rfl (y12 (zxc rfl rfl rfl rfl))))))))))))) (zx rfl rfl (y0 (zx rfl rfl (y7 (v := x3 + 0) rfl (zx rfl rfl (y4 rfl (zx rfl rfl (y6 rfl rfl (zx rfl rfl (y12 (zxc rfl rfl rfl rfl))))))))))))))))))))))))))))) (zx rfl rfl (y2 rfl (zx rfl rfl (y14 (v := .inr (.inr 50)) rfl (zx rfl rfl (y1 rfl (zx rfl rfl (y16 (v := σ 50 x4.toNatClampNeg) rfl rfl (zx rfl rfl (y0 (zx rfl rfl (y37 (zx rfl rfl (y0 (zx rfl rfl (y7 (v := x2 + 0) rfl (zx rfl rfl (y4 rfl (zx rfl rfl (y1 rfl (zx rfl rfl (y2 rfl (zx rfl rfl (y14 (v := .inr (.inr 50)) rfl (zx rfl rfl (y1 rfl (zx rfl rfl (y16 (v := σ 50 x4.toNatClampNeg) rfl rfl (zx rfl rfl (y32 (zx rfl rfl (y0 (zx rfl rfl (y12 (zx rfl rfl (y7 (v := x3 + 1) rfl (zx rfl rfl (y4 rfl (zx rfl rfl (y6 rfl rfl (zx rfl rfl (y12 (zxc rfl rfl rfl rfl))))))))))))) (zx rfl rfl (y0 (zx rfl rfl (y7 (v := x3 + 0) rfl (zx rfl rfl (y4 rfl (zx rfl rfl (y6 rfl rfl (zx rfl rfl (y12 (zxc rfl rfl rfl rfl))))))))))))))))))))))))))))) (zx rfl rfl (y0 (zx rfl rfl (y12 (zx rfl rfl (y7 (v := x2 + 1) rfl (zx rfl rfl (y4 rfl (zx rfl rfl (y1 rfl (zx rfl rfl (y2 rfl (zx rfl rfl (y14 (v := .inr (.inr 50)) rfl (zx rfl rfl (y1 rfl (zx rfl rfl (y16 (v := σ 50 x4.toNatClampNeg) rfl rfl (zx rfl rfl (y32 (zx rfl rfl (y0 (zx rfl rfl (y12 (zx rfl rfl (y7 (v := x3 + 1) rfl (zx rfl rfl (y4 rfl (zx rfl rfl (y6 rfl rfl (zx rfl rfl (y12 (zxc rfl rfl rfl rfl))))))))))))) (zx rfl rfl (y0 (zx rfl rfl (y7 (v := x3 + 0) rfl (zx rfl rfl (y4 rfl (zx rfl rfl (y6 rfl rfl (zx rfl rfl (y12 (zxc rfl rfl rfl rfl))))))))))))))))))))))))))))))))))))))))))))))))))))))))) (zx rfl rfl (y1 rfl (zx rfl rfl (y13 (ysw (zx rfl rfl (y2 rfl (zx rfl rfl (y14 (v := .inl (σ 38 20)) rfl (zx rfl rfl y19))))) (ysw (zx rfl rfl (y1 rfl (zx rfl rfl y19))) (ysw (zx rfl rfl (y1 rfl (zx rfl rfl y19))) (ysw (zx rfl rfl (y2 rfl (zx rfl rfl (y14 (v := .inl (σ 38 25)) rfl (zx rfl rfl y19))))) (ysw (zx rfl rfl (y2 rfl (zx rfl rfl (y14 (v := .inl (σ 38 26)) rfl (zx rfl rfl y19))))) (ysw (zx rfl rfl (y2 rfl (zx rfl rfl (y14 (v := .inl (σ 38 27)) rfl (zx rfl rfl y19))))) (yswd (zx rfl rfl (y0 (zx rfl rfl y19))))))))))))))))))))))
set_option maxRecDepth 100000 in
theorem qX8_tokenize_38_0 (d n : Nat) (σ : zS) : zexec zc_X8_tokenize zu_X8_tokenize (zM d) (n + 1) 0 [.inr (.inr 38)] σ = zexec zc_X8_tokenize zu_X8_tokenize (zM d) n 9 [.inr (.inr 38), .inl 0, .inl 1] (wr σ 38 4 0) := ze rfl rfl rfl (zx rfl rfl (y2 rfl (zx rfl rfl (y0 (zx rfl rfl (y15 rfl (zx rfl rfl (y0 (zx rfl rfl (y4 rfl (zx rfl rfl (y0 (zx rfl rfl (y4 rfl (zxc rfl rfl rfl rfl)))))))))))))))
set_option maxRecDepth 100000 in
theorem qX8_tokenize_38 (d : Nat) (σ : zS) : zM (d + 1) mX8_tokenize [.inr (.inr 38)] σ = zexec zc_X8_tokenize zu_X8_tokenize (zM d) (999999 + 1) 0 [.inr (.inr 38)] σ := zM_eq (zat_X8_tokenize) rfl (Nat.le_of_ble_eq_true rfl)
set_option maxRecDepth 100000 in
theorem qX8_tokenize_38_9 (d n : Nat) (σ : zS) (x1 x2 : Int32) : zexec zc_X8_tokenize zu_X8_tokenize (zM d) (n + 1) 9 [.inr (.inr 38), .inl x1, .inl x2] σ = if x2 = 0 then (zbV (zM d mX8_token [.inr (.inr 38), .inl 0, .inl (σ 38 2), .inl 0] σ) (fun s1 => some (0, 0, s1))) else (if x1 < (σ 38 2) then (if x1 < 0 ∨ 400 ≤ x1.toNatClampNeg then (none) else (if (σ 39 x1.toNatClampNeg) = 32 then (if (σ 38 4) = 0 then (zexec zc_X8_tokenize zu_X8_tokenize (zM d) n 9 [.inr (.inr 38), .inl (x1 + 1), .inl 1] σ) else (if ((σ 38 4) - 1) < 0 ∨ 402 ≤ ((σ 38 4) - 1).toNatClampNeg then (none) else (if (σ 40 (((σ 38 4) - 1).toNatClampNeg)) = 4 then (zexec zc_X8_tokenize zu_X8_tokenize (zM d) n 9 [.inr (.inr 38), .inl (x1 + 1), .inl 0] σ) else (zexec zc_X8_tokenize zu_X8_tokenize (zM d) n 9 [.inr (.inr 38), .inl (x1 + 1), .inl 1] σ)))) else (if x1 < 0 ∨ 400 ≤ x1.toNatClampNeg then (none) else (zbI (zM d mX8_isDigit [.inl (σ 39 x1.toNatClampNeg)] σ) (fun r2 s2 => if r2 = 0 then (if x1 < 0 ∨ 400 ≤ x1.toNatClampNeg then (none) else (zbI (zM d mX8_isLetter [.inl (s2 39 x1.toNatClampNeg)] s2) (fun r3 s3 => if r3 = 0 then (if x1 < 0 ∨ 400 ≤ x1.toNatClampNeg then (none) else (zbI (zM d mX8_isSign [.inl (s3 39 x1.toNatClampNeg)] s3) (fun r4 s4 => if r4 = 0 then (if x1 < 0 ∨ 400 ≤ x1.toNatClampNeg then (none) else (zbV (zM d mX8_token [.inr (.inr 38), .inl 4, .inl x1, .inl (s4 39 x1.toNatClampNeg)] s4) (fun s5 => if (s5 38 4) = 0 then (zexec zc_X8_tokenize zu_X8_tokenize (zM d) n 9 [.inr (.inr 38), .inl (x1 + 1), .inl 1] s5) else (if ((s5 38 4) - 1) < 0 ∨ 402 ≤ ((s5 38 4) - 1).toNatClampNeg then (none) else (if (s5 40 (((s5 38 4) - 1).toNatClampNeg)) = 4 then (zexec zc_X8_tokenize zu_X8_tokenize (zM d) n 9 [.inr (.inr 38), .inl (x1 + 1), .inl 0] s5) else (zexec zc_X8_tokenize zu_X8_tokenize (zM d) n 9 [.inr (.inr 38), .inl (x1 + 1), .inl 1] s5)))))) else (if x1 < 0 ∨ 400 ≤ x1.toNatClampNeg then (none) else (zbV (zM d mX8_token [.inr (.inr 38), .inl 3, .inl x1, .inl (s4 39 x1.toNatClampNeg)] s4) (fun s6 => if (s6 38 4) = 0 then (zexec zc_X8_tokenize zu_X8_tokenize (zM d) n 9 [.inr (.inr 38), .inl (x1 + 1), .inl 1] s6) else (if ((s6 38 4) - 1) < 0 ∨ 402 ≤ ((s6 38 4) - 1).toNatClampNeg then (none) else (if (s6 40 (((s6 38 4) - 1).toNatClampNeg)) = 4 then (zexec zc_X8_tokenize zu_X8_tokenize (zM d) n 9 [.inr (.inr 38), .inl (x1 + 1), .inl 0] s6) else (zexec zc_X8_tokenize zu_X8_tokenize (zM d) n 9 [.inr (.inr 38), .inl (x1 + 1), .inl 1] s6))))))))) else (zexec zc_X8_tokenize zu_X8_tokenize (zM d) n 136 [.inr (.inr 38), .inl x1, .inl x1] s3)))) else (zexec zc_X8_tokenize zu_X8_tokenize (zM d) n 55 [.inr (.inr 38), .inl x1, .inl x1, .inl 0] s2)))))) else (zbV (zM d mX8_token [.inr (.inr 38), .inl 0, .inl (σ 38 2), .inl 0] σ) (fun s7 => some (0, 0, s7)))) := ze rfl rfl rfl (zx rfl rfl (y1 rfl (zx rfl rfl (y32 (zx rfl rfl (y2 rfl (zx rfl rfl (y0 (zx rfl rfl (y2 rfl (zx rfl rfl (y14 (v := .inl (σ 38 2)) rfl (zx rfl rfl (y0 (zx rfl rfl (y30 (r := []) rfl rfl rfl rfl rfl (fun s1 => zx rfl rfl y20))))))))))))) (zx rfl rfl (y1 rfl (zx rfl rfl (y2 rfl (zx rfl rfl (y14 (v := .inl (σ 38 2)) rfl (zx rfl rfl (y36 (zx rfl rfl (y1 rfl (zx rfl rfl (y4 rfl (zx rfl rfl (y2 rfl (zx rfl rfl (y14 (v := .inr (.inr 39)) rfl (zx rfl rfl (y1 rfl (zx rfl rfl (y16 (v := σ 39 x1.toNatClampNeg) rfl rfl (zx rfl rfl (y0 (zx rfl rfl (y35 (zx rfl rfl (y6 rfl rfl (zx rfl rfl (y12 (zx rfl rfl (y2 rfl (zx rfl rfl (y14 (v := .inl (σ 38 4)) rfl (zx rfl rfl (y32 (zx rfl rfl (y0 (zx rfl rfl (y12 (zx rfl rfl (y4 rfl (zx rfl rfl (y12 (zxc rfl rfl rfl rfl))))))))) (zx rfl rfl (y2 rfl (zx rfl rfl (y14 (v := .inr (.inr 40)) rfl (zx rfl rfl (y2 rfl (zx rfl rfl (y14 (v := .inl (σ 38 4)) rfl (zx rfl rfl (y0 (zx rfl rfl (y7 (v := (σ 38 4) - 1) rfl (zx rfl rfl (y16 (v := σ 40 (((σ 38 4) - 1).toNatClampNeg)) rfl rfl (zx rfl rfl (y0 (zx rfl rfl (y35 (zx rfl rfl (y0 (zx rfl rfl (y4 rfl (zx rfl rfl (y12 (zxc rfl rfl rfl rfl))))))) (zx rfl rfl (y0 (zx rfl rfl (y12 (zx rfl rfl (y4 rfl (zx rfl rfl (y12 (zxc rfl rfl rfl rfl))))))))))))))))))))))))))))))))))))) (zx rfl rfl (y2 rfl (zx rfl rfl (y14 (v := .inr (.inr 39)) rfl (zx rfl rfl (y1 rfl (zx rfl rfl (y16 (v := σ 39 x1.toNatClampNeg) rfl rfl (zx rfl rfl (y18 (r := []) rfl rfl rfl rfl rfl (fun r2 s2 => zx rfl rfl (y32 (zx rfl rfl (y2 rfl (zx rfl rfl (y14 (v := .inr (.inr 39)) rfl (zx rfl rfl (y1 rfl (zx rfl rfl (y16 (v := s2 39 x1.toNatClampNeg) rfl rfl (zx rfl rfl (y18 (r := []) rfl rfl rfl rfl rfl (fun r3 s3 => zx rfl rfl (y32 (zx rfl rfl (y2 rfl (zx rfl rfl (y2 rfl (zx rfl rfl (y14 (v := .inr (.inr 39)) rfl (zx rfl rfl (y1 rfl (zx rfl rfl (y16 (v := s3 39 x1.toNatClampNeg) rfl rfl (zx rfl rfl (y18 (r := [.inr (.inr 38)]) rfl rfl rfl rfl rfl (fun r4 s4 => zx rfl rfl (y32 (zx rfl rfl (y0 (zx rfl rfl (y1 rfl (zx rfl rfl (y2 rfl (zx rfl rfl (y14 (v := .inr (.inr 39)) rfl (zx rfl rfl (y1 rfl (zx rfl rfl (y16 (v := s4 39 x1.toNatClampNeg) rfl rfl (zx rfl rfl (y30 (r := []) rfl rfl rfl rfl rfl (fun s5 => zx rfl rfl (y6 rfl rfl (zx rfl rfl (y2 rfl (zx rfl rfl (y14 (v := .inl (s5 38 4)) rfl (zx rfl rfl (y32 (zx rfl rfl (y0 (zx rfl rfl (y12 (zx rfl rfl (y4 rfl (zx rfl rfl (y12 (zxc rfl rfl rfl rfl))))))))) (zx rfl rfl (y2 rfl (zx rfl rfl (y14 (v := .inr (.inr 40)) rfl (zx rfl rfl (y2 rfl (zx rfl rfl (y14 (v := .inl (s5 38 4)) rfl (zx rfl rfl (y0 (zx rfl rfl (y7 (v := (s5 38 4) - 1) rfl (zx rfl rfl (y16 (v := s5 40 (((s5 38 4) - 1).toNatClampNeg)) rfl rfl (zx rfl rfl (y0 (zx rfl rfl (y35 (zx rfl rfl (y0 (zx rfl rfl (y4 rfl (zx rfl rfl (y12 (zxc rfl rfl rfl rfl))))))) (zx rfl rfl (y0 (zx rfl rfl (y12 (zx rfl rfl (y4 rfl (zx rfl rfl (y12 (zxc rfl rfl rfl rfl))))))))))))))))))))))))))))))))))))))))))))))))) (zx rfl rfl (y0 (zx rfl rfl (y12 (zx rfl rfl (y1 rfl (zx rfl rfl (y2 rfl (zx rfl rfl (y14 (v := .inr (.inr 39)) rfl (zx rfl rfl (y1 rfl (zx rfl rfl (y16 (v := s4 39 x1.toNatClampNeg) rfl rfl (zx rfl rfl (y30 (r := []) rfl rfl rfl rfl rfl (fun s6 => zx rfl rfl (y6 rfl rfl (zx rfl rfl (y2 rfl (zx rfl rfl (y14 (v := .inl (s6 38 4)) rfl (zx rfl rfl (y32 (zx rfl rfl (y0 (zx rfl rfl (y12 (zx rfl rfl (y4 rfl (zx rfl rfl (y12 (zxc rfl rfl rfl rfl))))))))) (zx rfl rfl (y2 rfl (zx rfl rfl (y14 (v := .inr (.inr 40)) rfl (zx rfl rfl (y2 rfl (zx rfl rfl (y14 (v := .inl (s6 38 4)) rfl (zx rfl rfl (y0 (zx rfl rfl (y7 (v := (s6 38 4) - 1) rfl (zx rfl rfl (y16 (v := s6 40 (((s6 38 4) - 1).toNatClampNeg)) rfl rfl (zx rfl rfl (y0 (zx rfl rfl (y35 (zx rfl rfl (y0 (zx rfl rfl (y4 rfl (zx rfl rfl (y12 (zxc rfl rfl rfl rfl))))))) (zx rfl rfl (y0 (zx rfl rfl (y12 (zx rfl rfl (y4 rfl (zx rfl rfl (y12 (zxc rfl rfl rfl rfl))))))))))))))))))))))))))))))))))))))))))))))))))))))))))))))))) (zxc rfl rfl rfl rfl))))))))))))) (zx rfl rfl (y0 (zx rfl rfl (y4 rfl (zxc rfl rfl rfl rfl))))))))))))))))))))))))))))))))) (zx rfl rfl (y2 rfl (zx rfl rfl (y0 (zx rfl rfl (y2 rfl (zx rfl rfl (y14 (v := .inl (σ 38 2)) rfl (zx rfl rfl (y0 (zx rfl rfl (y30 (r := []) rfl rfl rfl rfl rfl (fun s7 => zx rfl rfl y20)))))))))))))))))))))))))
set_option maxRecDepth 100000 in
theorem qX8_tokenize_38_55 (d n : Nat) (σ : zS) (x1 x3 x4 : Int32) : zexec zc_X8_tokenize zu_X8_tokenize (zM d) (n + 1) 55 [.inr (.inr 38), .inl x1, .inl x3, .inl x4] σ = zbI (zM d mX8_see [.inr (.inr 38), .inl x1] σ) (fun r1 s1 => zbI (zM d mX8_isDigit [.inl r1] s1) (fun r2 s2 => if r2 = 0 then (if 6 < (x1 - x3) then (zbV (zM d mX8_token [.inr (.inr 38), .inl 4, .inl x3, .inl x4] s2) (fun s3 => if (s3 38 4) = 0 then (zexec zc_X8_tokenize zu_X8_tokenize (zM d) n 9 [.inr (.inr 38), .inl x1, .inl 1] s3) else (if ((s3 38 4) - 1) < 0 ∨ 402 ≤ ((s3 38 4) - 1).toNatClampNeg then (none) else (if (s3 40 (((s3 38 4) - 1).toNatClampNeg)) = 4 then (zexec zc_X8_tokenize zu_X8_tokenize (zM d) n 9 [.inr (.inr 38), .inl x1, .inl 0] s3) else (zexec zc_X8_tokenize zu_X8_tokenize (zM d) n 9 [.inr (.inr 38), .inl x1, .inl 1] s3))))) else (zbV (zM d mX8_token [.inr (.inr 38), .inl 2, .inl x3, .inl x4] s2) (fun s4 => if (s4 38 4) = 0 then (zexec zc_X8_tokenize zu_X8_tokenize (zM d) n 9 [.inr (.inr 38), .inl x1, .inl 1] s4) else (if ((s4 38 4) - 1) < 0 ∨ 402 ≤ ((s4 38 4) - 1).toNatClampNeg then (none) else (if (s4 40 (((s4 38 4) - 1).toNatClampNeg)) = 4 then (zexec zc_X8_tokenize zu_X8_tokenize (zM d) n 9 [.inr (.inr 38), .inl x1, .inl 0] s4) else (zexec zc_X8_tokenize zu_X8_tokenize (zM d) n 9 [.inr (.inr 38), .inl x1, .inl 1] s4)))))) else (if (x1 - x3) < 6 then (zbI (zM d mX8_see [.inr (.inr 38), .inl x1] s2) (fun r5 s5 => zexec zc_X8_tokenize zu_X8_tokenize (zM d) n 55 [.inr (.inr 38), .inl (x1 + 1), .inl x3, .inl (((10 * x4) + r5) - 48)] s5)) else (zexec zc_X8_tokenize zu_X8_tokenize (zM d) n 55 [.inr (.inr 38), .inl (x1 + 1), .inl x3, .inl x4] s2)))) := ze rfl rfl rfl (zx rfl rfl (y2 rfl (zx rfl rfl (y1 rfl (zx rfl rfl (y18 (r := []) rfl rfl rfl rfl rfl (fun r1 s1 => zx rfl rfl (y18 (r := []) rfl rfl rfl rfl rfl (fun r2 s2 => zx rfl rfl (y32 (zx rfl rfl (y2 rfl (zx rfl rfl (y1 rfl (zx rfl rfl (y1 rfl (zx rfl rfl (y7 (v := x1 - x3) rfl (zx rfl rfl (y0 (zx rfl rfl (y37 (zx rfl rfl (y0 (zx rfl rfl (y12 (zx rfl rfl (y1 rfl (zx rfl rfl (y1 rfl (zx rfl rfl (y30 (r := []) rfl rfl rfl rfl rfl (fun s3 => zx rfl rfl (y12 (zx rfl rfl (y2 rfl (zx rfl rfl (y14 (v := .inl (s3 38 4)) rfl (zx rfl rfl (y32 (zx rfl rfl (y0 (zx rfl rfl (y12 (zx rfl rfl (y4 rfl (zx rfl rfl (y12 (zxc rfl rfl rfl rfl))))))))) (zx rfl rfl (y2 rfl (zx rfl rfl (y14 (v := .inr (.inr 40)) rfl (zx rfl rfl (y2 rfl (zx rfl rfl (y14 (v := .inl (s3 38 4)) rfl (zx rfl rfl (y0 (zx rfl rfl (y7 (v := (s3 38 4) - 1) rfl (zx rfl rfl (y16 (v := s3 40 (((s3 38 4) - 1).toNatClampNeg)) rfl rfl (zx rfl rfl (y0 (zx rfl rfl (y35 (zx rfl rfl (y0 (zx rfl rfl (y4 rfl (zx rfl rfl (y12 (zxc rfl rfl rfl rfl))))))) (zx rfl rfl (y0 (zx rfl rfl (y12 (zx rfl rfl (y4 rfl (zx rfl rfl (y12 (zxc rfl rfl rfl rfl))))))))))))))))))))))))))))))))))))))))))))) (zx rfl rfl (y0 (zx rfl rfl (y1 rfl (zx rfl rfl (y1 rfl (zx rfl rfl (y30 (r := []) rfl rfl rfl rfl rfl (fun s4 => zx rfl rfl (y12 (zx rfl rfl (y2 rfl (zx rfl rfl (y14 (v := .inl (s4 38 4)) rfl (zx rfl rfl (y32 (zx rfl rfl (y0 (zx rfl rfl (y12 (zx rfl rfl (y4 rfl (zx rfl rfl (y12 (zxc rfl rfl rfl rfl))))))))) (zx rfl rfl (y2 rfl (zx rfl rfl (y14 (v := .inr (.inr 40)) rfl (zx rfl rfl (y2 rfl (zx rfl rfl (y14 (v := .inl (s4 38 4)) rfl (zx rfl rfl (y0 (zx rfl rfl (y7 (v := (s4 38 4) - 1) rfl (zx rfl rfl (y16 (v := s4 40 (((s4 38 4) - 1).toNatClampNeg)) rfl rfl (zx rfl rfl (y0 (zx rfl rfl (y35 (zx rfl rfl (y0 (zx rfl rfl (y4 rfl (zx rfl rfl (y12 (zxc rfl rfl rfl rfl))))))) (zx rfl rfl (y0 (zx rfl rfl (y12 (zx rfl rfl (y4 rfl (zx rfl rfl (y12 (zxc rfl rfl rfl rfl))))))))))))))))))))))))))))))))))))))))))))))))))))))) (zx rfl rfl (y1 rfl (zx rfl rfl (y1 rfl (zx rfl rfl (y7 (v := x1 - x3) rfl (zx rfl rfl (y0 (zx rfl rfl (y36 (zx rfl rfl (y0 (zx rfl rfl (y1 rfl (zx rfl rfl (y7 (v := 10 * x4) rfl (zx rfl rfl (y2 rfl (zx rfl rfl (y1 rfl (zx rfl rfl (y18 (r := [.inl (10 * x4)]) rfl rfl rfl rfl rfl (fun r5 s5 => zx rfl rfl (y7 (v := (10 * x4) + r5) rfl (zx rfl rfl (y0 (zx rfl rfl (y7 (v := ((10 * x4) + r5) - 48) rfl (zx rfl rfl (y12 (zx rfl rfl (y4 rfl (zx rfl rfl (y6 rfl rfl (zx rfl rfl (y12 (zxc rfl rfl rfl rfl))))))))))))))))))))))))))) (zx rfl rfl (y1 rfl (zx rfl rfl (y4 rfl (zx rfl rfl (y6 rfl rfl (zx rfl rfl (y12 (zxc rfl rfl rfl rfl)))))))))))))))))))))))))))))
set_option maxRecDepth 100000 in
theorem qX8_tokenize_38_136 (d n : Nat) (σ : zS) (x1 x3 : Int32) : zexec zc_X8_tokenize zu_X8_tokenize (zM d) (n + 1) 136 [.inr (.inr 38), .inl x1, .inl x3] σ = zbI (zM d mX8_see [.inr (.inr 38), .inl x1] σ) (fun r1 s1 => zbI (zM d mX8_isLetter [.inl r1] s1) (fun r2 s2 => if r2 = 0 then (zbI (zM d mX8_nameOf [.inr (.inr 38), .inl x3, .inl (x1 - x3)] s2) (fun r3 s3 => zbV (zM d mX8_token [.inr (.inr 38), .inl 1, .inl x3, .inl r3] s3) (fun s4 => if (s4 38 4) = 0 then (zexec zc_X8_tokenize zu_X8_tokenize (zM d) n 9 [.inr (.inr 38), .inl x1, .inl 1] s4) else (if ((s4 38 4) - 1) < 0 ∨ 402 ≤ ((s4 38 4) - 1).toNatClampNeg then (none) else (if (s4 40 (((s4 38 4) - 1).toNatClampNeg)) = 4 then (zexec zc_X8_tokenize zu_X8_tokenize (zM d) n 9 [.inr (.inr 38), .inl x1, .inl 0] s4) else (zexec zc_X8_tokenize zu_X8_tokenize (zM d) n 9 [.inr (.inr 38), .inl x1, .inl 1] s4)))))) else (zexec zc_X8_tokenize zu_X8_tokenize (zM d) n 136 [.inr (.inr 38), .inl (x1 + 1), .inl x3] s2))) := ze rfl rfl rfl (zx rfl rfl (y2 rfl (zx rfl rfl (y1 rfl (zx rfl rfl (y18 (r := []) rfl rfl rfl rfl rfl (fun r1 s1 => zx rfl rfl (y18 (r := []) rfl rfl rfl rfl rfl (fun r2 s2 => zx rfl rfl (y32 (zx rfl rfl (y2 rfl (zx rfl rfl (y0 (zx rfl rfl (y1 rfl (zx rfl rfl (y2 rfl (zx rfl rfl (y1 rfl (zx rfl rfl (y1 rfl (zx rfl rfl (y1 rfl (zx rfl rfl (y7 (v := x1 - x3) rfl (zx rfl rfl (y18 (r := [.inl x3, .inl 1, .inr (.inr 38)]) rfl rfl rfl rfl rfl (fun r3 s3 => zx rfl rfl (y30 (r := []) rfl rfl rfl rfl rfl (fun s4 => zx rfl rfl (y12 (zx rfl rfl (y2 rfl (zx rfl rfl (y14 (v := .inl (s4 38 4)) rfl (zx rfl rfl (y32 (zx rfl rfl (y0 (zx rfl rfl (y12 (zx rfl rfl (y4 rfl (zx rfl rfl (y12 (zxc rfl rfl rfl rfl))))))))) (zx rfl rfl (y2 rfl (zx rfl rfl (y14 (v := .inr (.inr 40)) rfl (zx rfl rfl (y2 rfl (zx rfl rfl (y14 (v := .inl (s4 38 4)) rfl (zx rfl rfl (y0 (zx rfl rfl (y7 (v := (s4 38 4) - 1) rfl (zx rfl rfl (y16 (v := s4 40 (((s4 38 4) - 1).toNatClampNeg)) rfl rfl (zx rfl rfl (y0 (zx rfl rfl (y35 (zx rfl rfl (y0 (zx rfl rfl (y4 rfl (zx rfl rfl (y12 (zxc rfl rfl rfl rfl))))))) (zx rfl rfl (y0 (zx rfl rfl (y12 (zx rfl rfl (y4 rfl (zx rfl rfl (y12 (zxc rfl rfl rfl rfl))))))))))))))))))))))))))))))))))))))))))))))))))))))) (zx rfl rfl (y6 rfl rfl (zx rfl rfl (y12 (zxc rfl rfl rfl rfl)))))))))))))))
set_option maxRecDepth 100000 in
theorem qX8_readList_38_0 (d n : Nat) (σ : zS) : zexec zc_X8_readList zu_X8_readList (zM d) (n + 1) 0 [.inr (.inr 38)] σ = zexec zc_X8_readList zu_X8_readList (zM d) n 4 [.inr (.inr 38), .inl (-1), .inl (-1)] σ := ze rfl rfl rfl (zx rfl rfl (y0 (zx rfl rfl (y4 rfl (zx rfl rfl (y0 (zx rfl rfl (y4 rfl (zxc rfl rfl rfl rfl)))))))))
set_option maxRecDepth 100000 in
theorem qX8_readList_38 (d : Nat) (σ : zS) : zM (d + 1) mX8_readList [.inr (.inr 38)] σ = zexec zc_X8_readList zu_X8_readList (zM d) (999999 + 1) 0 [.inr (.inr 38)] σ := zM_eq (zat_X8_readList) rfl (Nat.le_of_ble_eq_true rfl)
set_option maxRecDepth 100000 in
theorem qX8_readList_38_4 (d n : Nat) (σ : zS) (x1 x2 : Int32) : zexec zc_X8_readList zu_X8_readList (zM d) (n + 1) 4 [.inr (.inr 38), .inl x1, .inl x2] σ = if (σ 38 8) < 0 ∨ 402 ≤ (σ 38 8).toNatClampNeg then (none) else (if (σ 40 ((σ 38 8).toNatClampNeg)) = 0 then (some (1, 1, wr σ 38 41 x1)) else (zbI (zM d mX8_is [.inr (.inr 38), .inl 93] σ) (fun r1 s1 => if r1 = 0 then (zbI (zM d mX8_is [.inr (.inr 38), .inl 124] s1) (fun r2 s2 => if r2 = 0 then (zbI (zM d mX8_readStatement [.inr (.inr 38)] s2) (fun r3 s3 => if r3 = 0 then (some (1, 0, s3)) else (if x1 = (-1) then (zexec zc_X8_readList zu_X8_readList (zM d) n 4 [.inr (.inr 38), .inl (s3 38 41), .inl (s3 38 41)] s3) else (if x2 < 0 ∨ 1600 ≤ x2.toNatClampNeg then (none) else (zexec zc_X8_readList zu_X8_readList (zM d) n 4 [.inr (.inr 38), .inl x1, .inl (s3 38 41)] (wr s3 49 x2.toNatClampNeg (s3 38 41))))))) else (some (1, 1, wr s2 38 41 x1)))) else (some (1, 1, wr s1 38 41 x1))))) := ze rfl rfl rfl (zx rfl rfl (y2 rfl (zx rfl rfl (y14 (v := .inr (.inr 40)) rfl (zx rfl rfl (y2 rfl (zx rfl rfl (y14 (v := .inl (σ 38 8)) rfl (zx rfl rfl (y16 (v := σ 40 ((σ 38 8).toNatClampNeg)) rfl rfl (zx rfl rfl (y32 (zx rfl rfl (y2 rfl (zx rfl rfl (y1 rfl (zx rfl rfl (y15 rfl (zx rfl rfl (y0 (zx rfl rfl (y19l (by decide))))))))))) (zx rfl rfl (y2 rfl (zx rfl rfl (y0 (zx rfl rfl (y18 (r := []) rfl rfl rfl rfl rfl (fun r1 s1 => zx rfl rfl (y32 (zx rfl rfl (y2 rfl (zx rfl rfl (y0 (zx rfl rfl (y18 (r := []) rfl rfl rfl rfl rfl (fun r2 s2 => zx rfl rfl (y32 (zx rfl rfl (y2 rfl (zx rfl rfl (y18 (r := []) rfl rfl rfl rfl rfl (fun r3 s3 => zx rfl rfl (y32 (zx rfl rfl (y0 (zx rfl rfl (y19l (by decide))))) (zx rfl rfl (y1 rfl (zx rfl rfl (y0 (zx rfl rfl (y35 (zx rfl rfl (y2 rfl (zx rfl rfl (y14 (v := .inl (s3 38 41)) rfl (zx rfl rfl (y4 rfl (zx rfl rfl (y12 (zx rfl rfl (y2 rfl (zx rfl rfl (y14 (v := .inl (s3 38 41)) rfl (zx rfl rfl (y4 rfl (zx rfl rfl (y12 (zxc rfl rfl rfl rfl))))))))))))))))) (zx rfl rfl (y2 rfl (zx rfl rfl (y14 (v := .inr (.inr 49)) rfl (zx rfl rfl (y1 rfl (zx rfl rfl (y2 rfl (zx rfl rfl (y14 (v := .inl (s3 38 41)) rfl (zx rfl rfl (y17 rfl (zx rfl rfl (y2 rfl (zx rfl rfl (y14 (v := .inl (s3 38 41)) rfl (zx rfl rfl (y4 rfl (zx rfl rfl (y12 (zxc rfl rfl rfl rfl))))))))))))))))))))))))))))))))) (zx rfl rfl (y2 rfl (zx rfl rfl (y1 rfl (zx rfl rfl (y15 rfl (zx rfl rfl (y0 (zx rfl rfl (y19l (by decide))))))))))))))))))) (zx rfl rfl (y2 rfl (zx rfl rfl (y1 rfl (zx rfl rfl (y15 rfl (zx rfl rfl (y0 (zx rfl rfl (y19l (by decide)))))))))))))))))))))))))))))))
set_option maxRecDepth 100000 in
theorem qX8_raise_38_0 (d n : Nat) (σ : zS) (x1 : Int32) : zexec zc_X8_raise zu_X8_raise (zM d) (n + 1) 0 [.inr (.inr 38), .inl x1] σ = some (1, 0, wr σ 38 0 x1) := ze rfl rfl rfl (zx rfl rfl (y2 rfl (zx rfl rfl (y1 rfl (zx rfl rfl (y15 rfl (zx rfl rfl (y0 (zx rfl rfl y19)))))))))
set_option maxRecDepth 100000 in
theorem qX8_raise_38 (d : Nat) (σ : zS) (x1 : Int32) : zM (d + 1) mX8_raise [.inr (.inr 38), .inl x1] σ = zexec zc_X8_raise zu_X8_raise (zM d) (999999 + 1) 0 [.inr (.inr 38), .inl x1] σ := zM_eq (zat_X8_raise) rfl (Nat.le_of_ble_eq_true rfl)
set_option maxRecDepth 100000 in
theorem qX8_refuse_38_0 (d n : Nat) (σ : zS) : zexec zc_X8_refuse zu_X8_refuse (zM d) (n + 1) 0 [.inr (.inr 38)] σ = if (σ 38 8) < 0 ∨ 402 ≤ (σ 38 8).toNatClampNeg then (none) else (some (1, 0, wr σ 38 3 (σ 41 ((σ 38 8).toNatClampNeg)))) := ze rfl rfl rfl (zx rfl rfl (y2 rfl (zx rfl rfl (y2 rfl (zx rfl rfl (y14 (v := .inr (.inr 41)) rfl (zx rfl rfl (y2 rfl (zx rfl rfl (y14 (v := .inl (σ 38 8)) rfl (zx rfl rfl (y16 (v := σ 41 ((σ 38 8).toNatClampNeg)) rfl rfl (zx rfl rfl (y15 rfl (zx rfl rfl (y0 (zx rfl rfl (y19l (by decide)))))))))))))))))))
set_option maxRecDepth 100000 in
theorem qX8_refuse_38 (d : Nat) (σ : zS) : zM (d + 1) mX8_refuse [.inr (.inr 38)] σ = zexec zc_X8_refuse zu_X8_refuse (zM d) (999999 + 1) 0 [.inr (.inr 38)] σ := zM_eq (zat_X8_refuse) rfl (Nat.le_of_ble_eq_true rfl)
set_option maxRecDepth 100000 in
theorem qX8_run_38_0 (d n : Nat) (σ : zS) : zexec zc_X8_run zu_X8_run (zM d) (n + 1) 0 [.inr (.inr 38)] σ = zexec zc_X8_run zu_X8_run (zM d) n 2 [.inr (.inr 38), .inl 0] σ := ze rfl rfl rfl (zx rfl rfl (y0 (zx rfl rfl (y4 rfl (zxc rfl rfl rfl rfl)))))
set_option maxRecDepth 100000 in
theorem qX8_run_38 (d : Nat) (σ : zS) : zM (d + 1) mX8_run [.inr (.inr 38)] σ = zexec zc_X8_run zu_X8_run (zM d) (999999 + 1) 0 [.inr (.inr 38)] σ := zM_eq (zat_X8_run) rfl (Nat.le_of_ble_eq_true rfl)
set_option maxRecDepth 100000 in
theorem qX8_run_38_2 (d n : Nat) (σ : zS) (x1 : Int32) : zexec zc_X8_run zu_X8_run (zM d) (n + 1) 2 [.inr (.inr 38), .inl x1] σ = if x1 < 8 then (if x1 < 0 ∨ 8 ≤ x1.toNatClampNeg then (none) else (zexec zc_X8_run zu_X8_run (zM d) n 2 [.inr (.inr 38), .inl (x1 + 1)] (wr σ 54 x1.toNatClampNeg 0))) else (zexec zc_X8_run zu_X8_run (zM d) n 56 [.inr (.inr 38)] (wr (wr (wr (wr (wr (wr (wr σ 38 31 0) 38 34 0) 38 38 0) 38 36 0) 38 37 0) 38 32 0) 38 33 0)) := ze rfl rfl rfl (zx rfl rfl (y1 rfl (zx rfl rfl (y0 (zx rfl rfl (y36 (zx rfl rfl (y2 rfl (zx rfl rfl (y14 (v := .inr (.inr 54)) rfl (zx rfl rfl (y1 rfl (zx rfl rfl (y0 (zx rfl rfl (y17 rfl (zx rfl rfl (y6 rfl rfl (zx rfl rfl (y12 (zxc rfl rfl rfl rfl))))))))))))))) (zx rfl rfl (y2 rfl (zx rfl rfl (y0 (zx rfl rfl (y15 rfl (zx rfl rfl (y2 rfl (zx rfl rfl (y0 (zx rfl rfl (y31l rfl (by decide) (zx rfl rfl (y2 rfl (zx rfl rfl (y0 (zx rfl rfl (y31l rfl (by decide) (zx rfl rfl (y2 rfl (zx rfl rfl (y0 (zx rfl rfl (y15 rfl (zx rfl rfl (y2 rfl (zx rfl rfl (y0 (zx rfl rfl (y15 rfl (zx rfl rfl (y2 rfl (zx rfl rfl (y0 (zx rfl rfl (y15 rfl (zx rfl rfl (y2 rfl (zx rfl rfl (y0 (zx rfl rfl (y15 rfl (zxc rfl rfl rfl rfl)))))))))))))))))))))))))))))))))))))))))))))))))
set_option maxRecDepth 100000 in
theorem qX8_run_38_56 (d n : Nat) (σ : zS) : zexec zc_X8_run zu_X8_run (zM d) (n + 1) 56 [.inr (.inr 38)] σ = if (σ 38 33) < (σ 38 20) then (if (σ 38 33) < 0 ∨ 201 ≤ (σ 38 33).toNatClampNeg then (none) else (if (σ 50 ((σ 38 33).toNatClampNeg)) = 0 then (if (σ 38 33) = (σ 38 20) then (zbV (zM d mX8_begins [.inr (.inr 38)] σ) (fun s1 => if (s1 38 31) = 0 then (if (s1 38 10) < 0 ∨ 2 ≤ (s1 38 10).toNatClampNeg then (none) else (zbV (zM d mX8_list [.inr (.inr 38), .inl (s1 43 ((s1 38 10).toNatClampNeg))] s1) (fun s2 => if (s2 38 31) = 0 then (zbV (zM d mX8_stop [.inr (.inr 38), .inl 0] s2) (fun s3 => some (0, 0, s3))) else (some (0, 0, s2))))) else (some (0, 0, s1)))) else (if (σ 38 31) = 0 then (if (σ 38 10) < 0 ∨ 2 ≤ (σ 38 10).toNatClampNeg then (none) else (zbV (zM d mX8_list [.inr (.inr 38), .inl (σ 43 ((σ 38 10).toNatClampNeg))] (wr (wr σ 38 32 (σ 38 33)) 38 33 ((σ 38 33) + 1))) (fun s4 => if (s4 38 31) = 0 then (zbV (zM d mX8_stop [.inr (.inr 38), .inl 0] s4) (fun s5 => some (0, 0, s5))) else (some (0, 0, s4))))) else (some (0, 0, wr (wr σ 38 32 (σ 38 33)) 38 33 ((σ 38 33) + 1))))) else (zexec zc_X8_run zu_X8_run (zM d) n 56 [.inr (.inr 38)] (wr σ 38 33 ((σ 38 33) + 1))))) else (if (σ 38 33) = (σ 38 20) then (zbV (zM d mX8_begins [.inr (.inr 38)] σ) (fun s6 => if (s6 38 31) = 0 then (if (s6 38 10) < 0 ∨ 2 ≤ (s6 38 10).toNatClampNeg then (none) else (zbV (zM d mX8_list [.inr (.inr 38), .inl (s6 43 ((s6 38 10).toNatClampNeg))] s6) (fun s7 => if (s7 38 31) = 0 then (zbV (zM d mX8_stop [.inr (.inr 38), .inl 0] s7) (fun s8 => some (0, 0, s8))) else (some (0, 0, s7))))) else (some (0, 0, s6)))) else (if (σ 38 31) = 0 then (if (σ 38 10) < 0 ∨ 2 ≤ (σ 38 10).toNatClampNeg then (none) else (zbV (zM d mX8_list [.inr (.inr 38), .inl (σ 43 ((σ 38 10).toNatClampNeg))] (wr (wr σ 38 32 (σ 38 33)) 38 33 ((σ 38 33) + 1))) (fun s9 => if (s9 38 31) = 0 then (zbV (zM d mX8_stop [.inr (.inr 38), .inl 0] s9) (fun s10 => some (0, 0, s10))) else (some (0, 0, s9))))) else (some (0, 0, wr (wr σ 38 32 (σ 38 33)) 38 33 ((σ 38 33) + 1))))) := ze rfl rfl rfl (zx rfl rfl (y2 rfl (zx rfl rfl (y14 (v := .inl (σ 38 33)) rfl (zx rfl rfl (y2 rfl (zx rfl rfl (y14 (v := .inl (σ 38 20)) rfl (zx rfl rfl (y36 (zx rfl rfl (y2 rfl (zx rfl rfl (y14 (v := .inr (.inr 50)) rfl (zx rfl rfl (y2 rfl (zx rfl rfl (y14 (v := .inl (σ 38 33)) rfl (zx rfl rfl (y16 (v := σ 50 ((σ 38 33).toNatClampNeg)) rfl rfl (zx rfl rfl (y32 (zx rfl rfl (y2 rfl (zx rfl rfl (y14 (v := .inl (σ 38 33)) rfl (zx rfl rfl (y2 rfl (zx rfl rfl (y14 (v := .inl (σ 38 20)) rfl (zx rfl rfl (y35 (zx rfl rfl (y2 rfl (zx rfl rfl (y30 (r := []) rfl rfl rfl rfl rfl (fun s1 => zx rfl rfl (y12 (zx rfl rfl (y2 rfl (zx rfl rfl (y14 (v := .inl (s1 38 31)) rfl (zx rfl rfl (y32 (zx rfl rfl (y2 rfl (zx rfl rfl (y2 rfl (zx rfl rfl (y14 (v := .inr (.inr 43)) rfl (zx rfl rfl (y2 rfl (zx rfl rfl (y14 (v := .inl (s1 38 10)) rfl (zx rfl rfl (y16 (v := s1 43 ((s1 38 10).toNatClampNeg)) rfl rfl (zx rfl rfl (y30 (r := []) rfl rfl rfl rfl rfl (fun s2 => zx rfl rfl (y2 rfl (zx rfl rfl (y14 (v := .inl (s2 38 31)) rfl (zx rfl rfl (y32 (zx rfl rfl (y2 rfl (zx rfl rfl (y0 (zx rfl rfl (y30 (r := []) rfl rfl rfl rfl rfl (fun s3 => zx rfl rfl y20))))))) (zx rfl rfl y20))))))))))))))))))))) (zx rfl rfl y20))))))))))))) (zx rfl rfl (y2 rfl (zx rfl rfl (y2 rfl (zx rfl rfl (y14 (v := .inl (σ 38 33)) rfl (zx rfl rfl (y15 rfl (zx rfl rfl (y2 rfl (zx rfl rfl (y21 rfl (zx rfl rfl (y14 (v := .inl (σ 38 33)) rfl (zx rfl rfl (y0 (zx rfl rfl (y7 (v := (σ 38 33) + 1) rfl (zx rfl rfl (y15 rfl (zx rfl rfl (y2 rfl (zx rfl rfl (y14 (v := .inl (σ 38 31)) rfl (zx rfl rfl (y32 (zx rfl rfl (y2 rfl (zx rfl rfl (y2 rfl (zx rfl rfl (y14 (v := .inr (.inr 43)) rfl (zx rfl rfl (y2 rfl (zx rfl rfl (y14 (v := .inl (σ 38 10)) rfl (zx rfl rfl (y16 (v := σ 43 ((σ 38 10).toNatClampNeg)) rfl rfl (zx rfl rfl (y30 (r := []) rfl rfl rfl rfl rfl (fun s4 => zx rfl rfl (y2 rfl (zx rfl rfl (y14 (v := .inl (s4 38 31)) rfl (zx rfl rfl (y32 (zx rfl rfl (y2 rfl (zx rfl rfl (y0 (zx rfl rfl (y30 (r := []) rfl rfl rfl rfl rfl (fun s5 => zx rfl rfl y20))))))) (zx rfl rfl y20))))))))))))))))))))) (zx rfl rfl y20))))))))))))))))))))))))))))))))))))) (zx rfl rfl (y2 rfl (zx rfl rfl (y21 rfl (zx rfl rfl (y14 (v := .inl (σ 38 33)) rfl (zx rfl rfl (y0 (zx rfl rfl (y7 (v := (σ 38 33) + 1) rfl (zx rfl rfl (y15 rfl (zx rfl rfl (y12 (zxc rfl rfl rfl rfl))))))))))))))))))))))))))) (zx rfl rfl (y2 rfl (zx rfl rfl (y14 (v := .inl (σ 38 33)) rfl (zx rfl rfl (y2 rfl (zx rfl rfl (y14 (v := .inl (σ 38 20)) rfl (zx rfl rfl (y35 (zx rfl rfl (y2 rfl (zx rfl rfl (y30 (r := []) rfl rfl rfl rfl rfl (fun s6 => zx rfl rfl (y12 (zx rfl rfl (y2 rfl (zx rfl rfl (y14 (v := .inl (s6 38 31)) rfl (zx rfl rfl (y32 (zx rfl rfl (y2 rfl (zx rfl rfl (y2 rfl (zx rfl rfl (y14 (v := .inr (.inr 43)) rfl (zx rfl rfl (y2 rfl (zx rfl rfl (y14 (v := .inl (s6 38 10)) rfl (zx rfl rfl (y16 (v := s6 43 ((s6 38 10).toNatClampNeg)) rfl rfl (zx rfl rfl (y30 (r := []) rfl rfl rfl rfl rfl (fun s7 => zx rfl rfl (y2 rfl (zx rfl rfl (y14 (v := .inl (s7 38 31)) rfl (zx rfl rfl (y32 (zx rfl rfl (y2 rfl (zx rfl rfl (y0 (zx rfl rfl (y30 (r := []) rfl rfl rfl rfl rfl (fun s8 => zx rfl rfl y20))))))) (zx rfl rfl y20))))))))))))))))))))) (zx rfl rfl y20))))))))))))) (zx rfl rfl (y2 rfl (zx rfl rfl (y2 rfl (zx rfl rfl (y14 (v := .inl (σ 38 33)) rfl (zx rfl rfl (y15 rfl (zx rfl rfl (y2 rfl (zx rfl rfl (y21 rfl (zx rfl rfl (y14 (v := .inl (σ 38 33)) rfl (zx rfl rfl (y0 (zx rfl rfl (y7 (v := (σ 38 33) + 1) rfl (zx rfl rfl (y15 rfl (zx rfl rfl (y2 rfl (zx rfl rfl (y14 (v := .inl (σ 38 31)) rfl (zx rfl rfl (y32 (zx rfl rfl (y2 rfl (zx rfl rfl (y2 rfl (zx rfl rfl (y14 (v := .inr (.inr 43)) rfl (zx rfl rfl (y2 rfl (zx rfl rfl (y14 (v := .inl (σ 38 10)) rfl (zx rfl rfl (y16 (v := σ 43 ((σ 38 10).toNatClampNeg)) rfl rfl (zx rfl rfl (y30 (r := []) rfl rfl rfl rfl rfl (fun s9 => zx rfl rfl (y2 rfl (zx rfl rfl (y14 (v := .inl (s9 38 31)) rfl (zx rfl rfl (y32 (zx rfl rfl (y2 rfl (zx rfl rfl (y0 (zx rfl rfl (y30 (r := []) rfl rfl rfl rfl rfl (fun s10 => zx rfl rfl y20))))))) (zx rfl rfl y20))))))))))))))))))))) (zx rfl rfl y20)))))))))))))))))))))))))))))))))))))))))))))))
set_option maxRecDepth 100000 in
theorem qX8_isGone_38_0 (d n : Nat) (σ : zS) (x1 : Int32) : zexec zc_X8_isGone zu_X8_isGone (zM d) (n + 1) 0 [.inr (.inr 38), .inl x1] σ = zexec zc_X8_isGone zu_X8_isGone (zM d) n 4 [.inr (.inr 38), .inl x1, .inl (x1 + 1)] σ := ze rfl rfl rfl (zx rfl rfl (y1 rfl (zx rfl rfl (y0 (zx rfl rfl (y7 (v := x1 + 1) rfl (zx rfl rfl (y4 rfl (zxc rfl rfl rfl rfl)))))))))
set_option maxRecDepth 100000 in
theorem qX8_isGone_38 (d : Nat) (σ : zS) (x1 : Int32) : zM (d + 1) mX8_isGone [.inr (.inr 38), .inl x1] σ = zexec zc_X8_isGone zu_X8_isGone (zM d) (999999 + 1) 0 [.inr (.inr 38), .inl x1] σ := zM_eq (zat_X8_isGone) rfl (Nat.le_of_ble_eq_true rfl)
set_option maxRecDepth 100000 in
theorem qX8_isGone_38_4 (d n : Nat) (σ : zS) (x1 x2 : Int32) : zexec zc_X8_isGone zu_X8_isGone (zM d) (n + 1) 4 [.inr (.inr 38), .inl x1, .inl x2] σ = if x2 < (σ 38 20) then (if x2 < 0 ∨ 201 ≤ x2.toNatClampNeg then (none) else (if (σ 50 x2.toNatClampNeg) < 5 then (zexec zc_X8_isGone zu_X8_isGone (zM d) n 4 [.inr (.inr 38), .inl x1, .inl (x2 + 1)] σ) else (if x2 < 0 ∨ 201 ≤ x2.toNatClampNeg then (none) else (if 7 < (σ 50 x2.toNatClampNeg) then (zexec zc_X8_isGone zu_X8_isGone (zM d) n 4 [.inr (.inr 38), .inl x1, .inl (x2 + 1)] σ) else (if x2 < 0 ∨ 201 ≤ x2.toNatClampNeg then (none) else (if (σ 51 x2.toNatClampNeg) = x1 then (some (1, 1, σ)) else (zexec zc_X8_isGone zu_X8_isGone (zM d) n 4 [.inr (.inr 38), .inl x1, .inl (x2 + 1)] σ))))))) else (some (1, 0, σ)) := ze rfl rfl rfl (zx rfl rfl (y1 rfl (zx rfl rfl (y2 rfl (zx rfl rfl (y14 (v := .inl (σ 38 20)) rfl (zx rfl rfl (y36 (zx rfl rfl (y2 rfl (zx rfl rfl (y14 (v := .inr (.inr 50)) rfl (zx rfl rfl (y1 rfl (zx rfl rfl (y16 (v := σ 50 x2.toNatClampNeg) rfl rfl (zx rfl rfl (y0 (zx rfl rfl (y36 (zx rfl rfl (y6 rfl rfl (zx rfl rfl (y12 (zxc rfl rfl rfl rfl))))) (zx rfl rfl (y2 rfl (zx rfl rfl (y14 (v := .inr (.inr 50)) rfl (zx rfl rfl (y1 rfl (zx rfl rfl (y16 (v := σ 50 x2.toNatClampNeg) rfl rfl (zx rfl rfl (y0 (zx rfl rfl (y37 (zx rfl rfl (y6 rfl rfl (zx rfl rfl (y12 (zxc rfl rfl rfl rfl))))) (zx rfl rfl (y2 rfl (zx rfl rfl (y14 (v := .inr (.inr 51)) rfl (zx rfl rfl (y1 rfl (zx rfl rfl (y16 (v := σ 51 x2.toNatClampNeg) rfl rfl (zx rfl rfl (y1 rfl (zx rfl rfl (y35 (zx rfl rfl (y0 (zx rfl rfl (y19l (by decide))))) (zx rfl rfl (y6 rfl rfl (zx rfl rfl (y12 (zxc rfl rfl rfl rfl))))))))))))))))))))))))))))))))))))))))) (zx rfl rfl (y0 (zx rfl rfl (y19l (by decide)))))))))))))
set_option maxRecDepth 100000 in
theorem qX8_token_38_0 (d n : Nat) (σ : zS) (x1 x2 x3 : Int32) : zexec zc_X8_token zu_X8_token (zM d) (n + 1) 0 [.inr (.inr 38), .inl x1, .inl x2, .inl x3] σ = if (σ 38 4) < 0 ∨ 402 ≤ (σ 38 4).toNatClampNeg then (none) else (if (σ 38 4) < 0 ∨ 402 ≤ (σ 38 4).toNatClampNeg then (none) else (if (σ 38 4) < 0 ∨ 402 ≤ (σ 38 4).toNatClampNeg then (none) else (some (0, 0, wr (wr (wr (wr σ 40 ((σ 38 4).toNatClampNeg) x1) 41 ((σ 38 4).toNatClampNeg) x2) 42 ((σ 38 4).toNatClampNeg) x3) 38 4 ((σ 38 4) + 1))))) := ze rfl rfl rfl (zx rfl rfl (y2 rfl (zx rfl rfl (y14 (v := .inr (.inr 40)) rfl (zx rfl rfl (y2 rfl (zx rfl rfl (y14 (v := .inl (σ 38 4)) rfl (zx rfl rfl (y1 rfl (zx rfl rfl (y17 rfl (zx rfl rfl (y2 rfl (zx rfl rfl (y14 (v := .inr (.inr 41)) rfl (zx rfl rfl (y2 rfl (zx rfl rfl (y14 (v := .inl (σ 38 4)) rfl (zx rfl rfl (y1 rfl (zx rfl rfl (y17 rfl (zx rfl rfl (y2 rfl (zx rfl rfl (y14 (v := .inr (.inr 42)) rfl (zx rfl rfl (y2 rfl (zx rfl rfl (y14 (v := .inl (σ 38 4)) rfl (zx rfl rfl (y1 rfl (zx rfl rfl (y17 rfl (zx rfl rfl (y2 rfl (zx rfl rfl (y21 rfl (zx rfl rfl (y14 (v := .inl (σ 38 4)) rfl (zx rfl rfl (y0 (zx rfl rfl (y7 (v := (σ 38 4) + 1) rfl (zx rfl rfl (y15 rfl (zx rfl rfl y20)))))))))))))))))))))))))))))))))))))))))))))))))
set_option maxRecDepth 100000 in
theorem qX8_token_38 (d : Nat) (σ : zS) (x1 x2 x3 : Int32) : zM (d + 1) mX8_token [.inr (.inr 38), .inl x1, .inl x2, .inl x3] σ = zexec zc_X8_token zu_X8_token (zM d) (999999 + 1) 0 [.inr (.inr 38), .inl x1, .inl x2, .inl x3] σ := zM_eq (zat_X8_token) rfl (Nat.le_of_ble_eq_true rfl)
set_option maxRecDepth 100000 in
theorem qX8_isDigit_0 (d n : Nat) (σ : zS) (x0 : Int32) : zexec zc_X8_isDigit zu_X8_isDigit (zM d) (n + 1) 0 [.inl x0] σ = if x0 < 48 then (some (1, 0, σ)) else (if 57 < x0 then (some (1, 0, σ)) else (some (1, 1, σ))) := ze rfl rfl rfl (zx rfl rfl (y1 rfl (zx rfl rfl (y0 (zx rfl rfl (y36 (zx rfl rfl (y0 (zx rfl rfl (y19l (by decide))))) (zx rfl rfl (y1 rfl (zx rfl rfl (y0 (zx rfl rfl (y37 (zx rfl rfl (y0 (zx rfl rfl (y19l (by decide))))) (zx rfl rfl (y0 (zx rfl rfl (y12 (zx rfl rfl (y19l (by decide)))))))))))))))))))
set_option maxRecDepth 100000 in
theorem qX8_isDigit (d : Nat) (σ : zS) (x0 : Int32) : zM (d + 1) mX8_isDigit [.inl x0] σ = zexec zc_X8_isDigit zu_X8_isDigit (zM d) (999999 + 1) 0 [.inl x0] σ := zM_eq (zat_X8_isDigit) rfl (Nat.le_of_ble_eq_true rfl)
set_option maxRecDepth 100000 in
theorem qX8_isLetter_0 (d n : Nat) (σ : zS) (x0 : Int32) : zexec zc_X8_isLetter zu_X8_isLetter (zM d) (n + 1) 0 [.inl x0] σ = if x0 < 97 then (some (1, 0, σ)) else (if 122 < x0 then (some (1, 0, σ)) else (some (1, 1, σ))) := ze rfl rfl rfl (zx rfl rfl (y1 rfl (zx rfl rfl (y0 (zx rfl rfl (y36 (zx rfl rfl (y0 (zx rfl rfl (y19l (by decide))))) (zx rfl rfl (y1 rfl (zx rfl rfl (y0 (zx rfl rfl (y37 (zx rfl rfl (y0 (zx rfl rfl (y19l (by decide))))) (zx rfl rfl (y0 (zx rfl rfl (y12 (zx rfl rfl (y19l (by decide)))))))))))))))))))
set_option maxRecDepth 100000 in
theorem qX8_isLetter (d : Nat) (σ : zS) (x0 : Int32) : zM (d + 1) mX8_isLetter [.inl x0] σ = zexec zc_X8_isLetter zu_X8_isLetter (zM d) (999999 + 1) 0 [.inl x0] σ := zM_eq (zat_X8_isLetter) rfl (Nat.le_of_ble_eq_true rfl)
end
section
-- equations: what each method of the image does, from cut to cut (printed by wip/eqs.py)
set_option maxRecDepth 100000 in
theorem qX8_isSign_0 (d n : Nat) (σ : zS) (x0 : Int32) : zexec zc_X8_isSign zu_X8_isSign (zM d) (n + 1) 0 [.inl x0] σ = if x0 = 59 then (some (1, 1, σ)) else (if x0 = 61 then (some (1, 1, σ)) else (if x0 = 43 then (some (1, 1, σ)) else (if x0 = 45 then (some (1, 1, σ)) else (if x0 = 42 then (some (1, 1, σ)) else (if x0 = 60 then (some (1, 1, σ)) else (if x0 = 40 then (some (1, 1, σ)) else (if x0 = 41 then (some (1, 1, σ)) else (if x0 = 63 then (some (1, 1, σ)) else (if x0 = 91 then (some (1, 1, σ)) else (if x0 = 93 then (some (1, 1, σ)) else (if x0 = 124 then (some (1, 1, σ)) else (if x0 = 44 then (some (1, 1, σ)) else (if x0 = 64 then (some (1, 1, σ)) else (some (1, 0, σ))))))))))))))) := ze rfl rfl rfl (zx rfl rfl (y1 rfl (zx rfl rfl (y0 (zx rfl rfl (y35 (zx rfl rfl (y0 (zx rfl rfl (y12 (zx rfl rfl (y19l (by decide))))))) (zx rfl rfl (y1 rfl (zx rfl rfl (y0 (zx rfl rfl (y35 (zx rfl rfl (y0 (zx rfl rfl (y12 (zx rfl rfl (y19l (by decide))))))) (zx rfl rfl (y1 rfl (zx rfl rfl (y0 (zx rfl rfl (y35 (zx rfl rfl (y0 (zx rfl rfl (y12 (zx rfl rfl (y19l (by decide))))))) (zx rfl rfl (y1 rfl (zx rfl rfl (y0 (zx rfl rfl (y35 (zx rfl rfl (y0 (zx rfl rfl (y12 (zx rfl rfl (y19l (by decide))))))) (zx rfl rfl (y1 rfl (zx rfl rfl (y0 (zx rfl rfl (y35 (zx rfl rfl (y0 (zx rfl rfl (y12 (zx rfl rfl (y19l (by decide))))))) (zx rfl rfl (y1 rfl (zx rfl rfl (y0 (zx rfl rfl (y35 (zx rfl rfl (y0 (zx rfl rfl (y12 (zx rfl rfl (y19l (by decide))))))) (zx rfl rfl (y1 rfl (zx rfl rfl (y0 (zx rfl rfl (y35 (zx rfl rfl (y0 (zx rfl rfl (y12 (zx rfl rfl (y19l (by decide))))))) (zx rfl rfl (y1 rfl (zx rfl rfl (y0 (zx rfl rfl (y35 (zx rfl rfl (y0 (zx rfl rfl (y12 (zx rfl rfl (y19l (by decide))))))) (zx rfl rfl (y1 rfl (zx rfl rfl (y0 (zx rfl rfl (y35 (zx rfl rfl (y0 (zx rfl rfl (y12 (zx rfl rfl (y19l (by decide))))))) (zx rfl rfl (y1 rfl (zx rfl rfl (y0 (zx rfl rfl (y35 (zx rfl rfl (y0 (zx rfl rfl (y12 (zx rfl rfl (y19l (by decide))))))) (zx rfl rfl (y1 rfl (zx rfl rfl (y0 (zx rfl rfl (y35 (zx rfl rfl (y0 (zx rfl rfl (y12 (zx rfl rfl (y19l (by decide))))))) (zx rfl rfl (y1 rfl (zx rfl rfl (y0 (zx rfl rfl (y35 (zx rfl rfl (y0 (zx rfl rfl (y12 (zx rfl rfl (y19l (by decide))))))) (zx rfl rfl (y1 rfl (zx rfl rfl (y0 (zx rfl rfl (y35 (zx rfl rfl (y0 (zx rfl rfl (y12 (zx rfl rfl (y19l (by decide))))))) (zx rfl rfl (y1 rfl (zx rfl rfl (y0 (zx rfl rfl (y35 (zx rfl rfl (y0 (zx rfl rfl (y12 (zx rfl rfl (y19l (by decide))))))) (zx rfl rfl (y0 (zx rfl rfl (y19l (by decide)))))))))))))))))))))))))))))))))))))))))))))))))))))))))))))))))))))))))))))))))))))))))
set_option maxRecDepth 100000 in
theorem qX8_isSign (d : Nat) (σ : zS) (x0 : Int32) : zM (d + 1) mX8_isSign [.inl x0] σ = zexec zc_X8_isSign zu_X8_isSign (zM d) (999999 + 1) 0 [.inl x0] σ := zM_eq (zat_X8_isSign) rfl (Nat.le_of_ble_eq_true rfl)
set_option maxRecDepth 100000 in
theorem qX8_see_38_0 (d n : Nat) (σ : zS) (x1 : Int32) : zexec zc_X8_see zu_X8_see (zM d) (n + 1) 0 [.inr (.inr 38), .inl x1] σ = if x1 < (σ 38 2) then (if x1 < 0 ∨ 400 ≤ x1.toNatClampNeg then (none) else (some (1, σ 39 x1.toNatClampNeg, σ))) else (some (1, 0, σ)) := ze rfl rfl rfl (zx rfl rfl (y1 rfl (zx rfl rfl (y2 rfl (zx rfl rfl (y14 (v := .inl (σ 38 2)) rfl (zx rfl rfl (y36 (zx rfl rfl (y2 rfl (zx rfl rfl (y14 (v := .inr (.inr 39)) rfl (zx rfl rfl (y1 rfl (zx rfl rfl (y16 (v := σ 39 x1.toNatClampNeg) rfl rfl (zx rfl rfl (y12 (zx rfl rfl y19))))))))))) (zx rfl rfl (y0 (zx rfl rfl y19)))))))))))
set_option maxRecDepth 100000 in
theorem qX8_see_38 (d : Nat) (σ : zS) (x1 : Int32) : zM (d + 1) mX8_see [.inr (.inr 38), .inl x1] σ = zexec zc_X8_see zu_X8_see (zM d) (999999 + 1) 0 [.inr (.inr 38), .inl x1] σ := zM_eq (zat_X8_see) rfl (Nat.le_of_ble_eq_true rfl)
set_option maxRecDepth 100000 in
theorem qX8_nameOf_38_0 (d n : Nat) (σ : zS) (x1 x2 : Int32) : zexec zc_X8_nameOf zu_X8_nameOf (zM d) (n + 1) 0 [.inr (.inr 38), .inl x1, .inl x2] σ = if x2 = 1 then (if x1 < 0 ∨ 400 ≤ x1.toNatClampNeg then (none) else (if 104 < (σ 39 x1.toNatClampNeg) then (some (1, 0, σ)) else (if x1 < 0 ∨ 400 ≤ x1.toNatClampNeg then (none) else (some (1, (20 + (σ 39 x1.toNatClampNeg)) - 97, σ))))) else (zexec zc_X8_nameOf zu_X8_nameOf (zM d) n 38 [.inr (.inr 38), .inl x1, .inl x2, .inl 0, .inl 0] σ) := ze rfl rfl rfl (zx rfl rfl (y1 rfl (zx rfl rfl (y0 (zx rfl rfl (y35 (zx rfl rfl (y2 rfl (zx rfl rfl (y14 (v := .inr (.inr 39)) rfl (zx rfl rfl (y1 rfl (zx rfl rfl (y16 (v := σ 39 x1.toNatClampNeg) rfl rfl (zx rfl rfl (y0 (zx rfl rfl (y37 (zx rfl rfl (y0 (zx rfl rfl y19))) (zx rfl rfl (y0 (zx rfl rfl (y2 rfl (zx rfl rfl (y14 (v := .inr (.inr 39)) rfl (zx rfl rfl (y1 rfl (zx rfl rfl (y16 (v := σ 39 x1.toNatClampNeg) rfl rfl (zx rfl rfl (y7 (v := 20 + (σ 39 x1.toNatClampNeg)) rfl (zx rfl rfl (y0 (zx rfl rfl (y7 (v := (20 + (σ 39 x1.toNatClampNeg)) - 97) rfl (zx rfl rfl (y12 (zx rfl rfl y19))))))))))))))))))))))))))))))) (zx rfl rfl (y0 (zx rfl rfl (y4 rfl (zx rfl rfl (y0 (zx rfl rfl (y4 rfl (zxc rfl rfl rfl rfl)))))))))))))))
set_option maxRecDepth 100000 in
theorem qX8_nameOf_38 (d : Nat) (σ : zS) (x1 x2 : Int32) : zM (d + 1) mX8_nameOf [.inr (.inr 38), .inl x1, .inl x2] σ = zexec zc_X8_nameOf zu_X8_nameOf (zM d) (999999 + 1) 0 [.inr (.inr 38), .inl x1, .inl x2] σ := zM_eq (zat_X8_nameOf) rfl (Nat.le_of_ble_eq_true rfl)
set_option maxRecDepth 100000 in
theorem qX8_nameOf_38_38 (d n : Nat) (σ : zS) (x1 x2 x3 x4 : Int32) : zexec zc_X8_nameOf zu_X8_nameOf (zM d) (n + 1) 38 [.inr (.inr 38), .inl x1, .inl x2, .inl x3, .inl x4] σ = if x4 < 4 then (if x4 < x2 then (if (x1 + x4) < 0 ∨ 400 ≤ (x1 + x4).toNatClampNeg then (none) else (zexec zc_X8_nameOf zu_X8_nameOf (zM d) n 38 [.inr (.inr 38), .inl x1, .inl x2, .inl ((x3 <<< (8 &&& 31)) ||| (σ 39 ((x1 + x4).toNatClampNeg))), .inl (x4 + 1)] σ)) else (zexec zc_X8_nameOf zu_X8_nameOf (zM d) n 71 [.inr (.inr 38), .inl x1, .inl x2, .inl x3] σ)) else (zexec zc_X8_nameOf zu_X8_nameOf (zM d) n 71 [.inr (.inr 38), .inl x1, .inl x2, .inl x3] σ) := ze rfl rfl rfl (zx rfl rfl (y1 rfl (zx rfl rfl (y0 (zx rfl rfl (y36 (zx rfl rfl (y1 rfl (zx rfl rfl (y1 rfl (zx rfl rfl (y36 (zx rfl rfl (y1 rfl (zx rfl rfl (y0 (zx rfl rfl (y7 (v := x3 <<< (8 &&& 31)) rfl (zx rfl rfl (y2 rfl (zx rfl rfl (y14 (v := .inr (.inr 39)) rfl (zx rfl rfl (y1 rfl (zx rfl rfl (y1 rfl (zx rfl rfl (y7 (v := x1 + x4) rfl (zx rfl rfl (y16 (v := σ 39 ((x1 + x4).toNatClampNeg)) rfl rfl (zx rfl rfl (y7 (v := (x3 <<< (8 &&& 31)) ||| (σ 39 ((x1 + x4).toNatClampNeg))) rfl (zx rfl rfl (y4 rfl (zx rfl rfl (y6 rfl rfl (zx rfl rfl (y12 (zxc rfl rfl rfl rfl))))))))))))))))))))))))))) (zxc rfl rfl rfl rfl))))))) (zxc rfl rfl rfl rfl)))))))
set_option maxRecDepth 100000 in
theorem qX8_nameOf_38_71 (d n : Nat) (σ : zS) (x1 x2 x3 : Int32) : zexec zc_X8_nameOf zu_X8_nameOf (zM d) (n + 1) 71 [.inr (.inr 38), .inl x1, .inl x2, .inl x3] σ = if x2 = 5 then (if (x1 + 4) < 0 ∨ 400 ≤ (x1 + 4).toNatClampNeg then (none) else (if x2 = 3 then (zbI (zM d mX8_spelt [.inl 0, .inl 97, .inl 99, .inl 116] σ) (fun r1 s1 => if x3 = r1 then (some (1, 1, s1)) else (zbI (zM d mX8_spelt [.inl 0, .inl 97, .inl 110, .inl 121] s1) (fun r2 s2 => if x3 = r2 then (some (1, 3, s2)) else (zbI (zM d mX8_spelt [.inl 0, .inl 115, .inl 105, .inl 103] s2) (fun r3 s3 => if x3 = r3 then (some (1, 5, s3)) else (zbI (zM d mX8_spelt [.inl 0, .inl 110, .inl 111, .inl 119] s3) (fun r4 s4 => if x3 = r4 then (some (1, 6, s4)) else (some (1, 0, s4)))))))))) else (if x2 = 4 then (zbI (zM d mX8_spelt [.inl 115, .inl 116, .inl 111, .inl 112] σ) (fun r5 s5 => if x3 = r5 then (some (1, 8, s5)) else (zbI (zM d mX8_spelt [.inl 119, .inl 97, .inl 105, .inl 116] s5) (fun r6 s6 => if x3 = r6 then (some (1, 9, s6)) else (some (1, 0, s6)))))) else (if x2 = 5 then (zbI (zM d mX8_spelt [.inl 116, .inl 105, .inl 109, .inl 101] σ) (fun r7 s7 => if x3 = r7 then (if (σ 39 ((x1 + 4).toNatClampNeg)) = 114 then (some (1, 2, s7)) else (zexec zc_X8_nameOf zu_X8_nameOf (zM d) n 250 [.inl x3, .inl (σ 39 ((x1 + 4).toNatClampNeg))] s7)) else (zexec zc_X8_nameOf zu_X8_nameOf (zM d) n 250 [.inl x3, .inl (σ 39 ((x1 + 4).toNatClampNeg))] s7))) else (some (1, 0, σ)))))) else (if x2 = 3 then (zbI (zM d mX8_spelt [.inl 0, .inl 97, .inl 99, .inl 116] σ) (fun r8 s8 => if x3 = r8 then (some (1, 1, s8)) else (zbI (zM d mX8_spelt [.inl 0, .inl 97, .inl 110, .inl 121] s8) (fun r9 s9 => if x3 = r9 then (some (1, 3, s9)) else (zbI (zM d mX8_spelt [.inl 0, .inl 115, .inl 105, .inl 103] s9) (fun r10 s10 => if x3 = r10 then (some (1, 5, s10)) else (zbI (zM d mX8_spelt [.inl 0, .inl 110, .inl 111, .inl 119] s10) (fun r11 s11 => if x3 = r11 then (some (1, 6, s11)) else (some (1, 0, s11)))))))))) else (if x2 = 4 then (zbI (zM d mX8_spelt [.inl 115, .inl 116, .inl 111, .inl 112] σ) (fun r12 s12 => if x3 = r12 then (some (1, 8, s12)) else (zbI (zM d mX8_spelt [.inl 119, .inl 97, .inl 105, .inl 116] s12) (fun r13 s13 => if x3 = r13 then (some (1, 9, s13)) else (some (1, 0, s13)))))) else (if x2 = 5 then (zbI (zM d mX8_spelt [.inl 116, .inl 105, .inl 109, .inl 101] σ) (fun r14 s14 => if x3 = r14 then (zexec zc_X8_nameOf zu_X8_nameOf (zM d) n 250 [.inl x3, .inl 0] s14) else (zexec zc_X8_nameOf zu_X8_nameOf (zM d) n 250 [.inl x3, .inl 0] s14))) else (some (1, 0, σ))))) := ze rfl rfl rfl (zx rfl rfl (y1 rfl (zx rfl rfl (y0 (zx rfl rfl (y35 (zx rfl rfl (y2 rfl (zx rfl rfl (y14 (v := .inr (.inr 39)) rfl (zx rfl rfl (y1 rfl (zx rfl rfl (y0 (zx rfl rfl (y7 (v := x1 + 4) rfl (zx rfl rfl (y16 (v := σ 39 ((x1 + 4).toNatClampNeg)) rfl rfl (zx rfl rfl (y12 (zx rfl rfl (y4 rfl (zx rfl rfl (y1 rfl (zx rfl rfl (y0 (zx rfl rfl (y35 (zx rfl rfl (y1 rfl (zx rfl rfl (y0 (zx rfl rfl (y0 (zx rfl rfl (y0 (zx rfl rfl (y0 (zx rfl rfl (y18 (r := [.inl x3]) rfl rfl rfl rfl rfl (fun r1 s1 => zx rfl rfl (y35 (zx rfl rfl (y0 (zx rfl rfl (y12 (zx rfl rfl y19))))) (zx rfl rfl (y1 rfl (zx rfl rfl (y0 (zx rfl rfl (y0 (zx rfl rfl (y0 (zx rfl rfl (y0 (zx rfl rfl (y18 (r := [.inl x3]) rfl rfl rfl rfl rfl (fun r2 s2 => zx rfl rfl (y35 (zx rfl rfl (y0 (zx rfl rfl (y12 (zx rfl rfl y19))))) (zx rfl rfl (y1 rfl (zx rfl rfl (y0 (zx rfl rfl (y0 (zx rfl rfl (y0 (zx rfl rfl (y0 (zx rfl rfl (y18 (r := [.inl x3]) rfl rfl rfl rfl rfl (fun r3 s3 => zx rfl rfl (y35 (zx rfl rfl (y0 (zx rfl rfl (y12 (zx rfl rfl y19))))) (zx rfl rfl (y1 rfl (zx rfl rfl (y0 (zx rfl rfl (y0 (zx rfl rfl (y0 (zx rfl rfl (y0 (zx rfl rfl (y18 (r := [.inl x3]) rfl rfl rfl rfl rfl (fun r4 s4 => zx rfl rfl (y35 (zx rfl rfl (y0 (zx rfl rfl (y12 (zx rfl rfl y19))))) (zx rfl rfl (y0 (zx rfl rfl y19))))))))))))))))))))))))))))))))))))))))))))))))))))))))))) (zx rfl rfl (y1 rfl (zx rfl rfl (y0 (zx rfl rfl (y35 (zx rfl rfl (y1 rfl (zx rfl rfl (y0 (zx rfl rfl (y0 (zx rfl rfl (y0 (zx rfl rfl (y0 (zx rfl rfl (y18 (r := [.inl x3]) rfl rfl rfl rfl rfl (fun r5 s5 => zx rfl rfl (y35 (zx rfl rfl (y0 (zx rfl rfl (y12 (zx rfl rfl y19))))) (zx rfl rfl (y1 rfl (zx rfl rfl (y0 (zx rfl rfl (y0 (zx rfl rfl (y0 (zx rfl rfl (y0 (zx rfl rfl (y18 (r := [.inl x3]) rfl rfl rfl rfl rfl (fun r6 s6 => zx rfl rfl (y35 (zx rfl rfl (y0 (zx rfl rfl (y12 (zx rfl rfl y19))))) (zx rfl rfl (y0 (zx rfl rfl y19))))))))))))))))))))))))))))))) (zx rfl rfl (y1 rfl (zx rfl rfl (y0 (zx rfl rfl (y35 (zx rfl rfl (y1 rfl (zx rfl rfl (y0 (zx rfl rfl (y0 (zx rfl rfl (y0 (zx rfl rfl (y0 (zx rfl rfl (y18 (r := [.inl x3]) rfl rfl rfl rfl rfl (fun r7 s7 => zx rfl rfl (y35 (zx rfl rfl (y1 rfl (zx rfl rfl (y0 (zx rfl rfl (y35 (zx rfl rfl (y0 (zx rfl rfl (y12 (zx rfl rfl y19))))) (zxc rfl rfl rfl rfl))))))) (zxc rfl rfl rfl rfl))))))))))))))) (zx rfl rfl (y0 (zx rfl rfl y19))))))))))))))))))))))))))))))))))))) (zx rfl rfl (y0 (zx rfl rfl (y4 rfl (zx rfl rfl (y1 rfl (zx rfl rfl (y0 (zx rfl rfl (y35 (zx rfl rfl (y1 rfl (zx rfl rfl (y0 (zx rfl rfl (y0 (zx rfl rfl (y0 (zx rfl rfl (y0 (zx rfl rfl (y18 (r := [.inl x3]) rfl rfl rfl rfl rfl (fun r8 s8 => zx rfl rfl (y35 (zx rfl rfl (y0 (zx rfl rfl (y12 (zx rfl rfl y19))))) (zx rfl rfl (y1 rfl (zx rfl rfl (y0 (zx rfl rfl (y0 (zx rfl rfl (y0 (zx rfl rfl (y0 (zx rfl rfl (y18 (r := [.inl x3]) rfl rfl rfl rfl rfl (fun r9 s9 => zx rfl rfl (y35 (zx rfl rfl (y0 (zx rfl rfl (y12 (zx rfl rfl y19))))) (zx rfl rfl (y1 rfl (zx rfl rfl (y0 (zx rfl rfl (y0 (zx rfl rfl (y0 (zx rfl rfl (y0 (zx rfl rfl (y18 (r := [.inl x3]) rfl rfl rfl rfl rfl (fun r10 s10 => zx rfl rfl (y35 (zx rfl rfl (y0 (zx rfl rfl (y12 (zx rfl rfl y19))))) (zx rfl rfl (y1 rfl (zx rfl rfl (y0 (zx rfl rfl (y0 (zx rfl rfl (y0 (zx rfl rfl (y0 (zx rfl rfl (y18 (r := [.inl x3]) rfl rfl rfl rfl rfl (fun r11 s11 => zx rfl rfl (y35 (zx rfl rfl (y0 (zx rfl rfl (y12 (zx rfl rfl y19))))) (zx rfl rfl (y0 (zx rfl rfl y19))))))))))))))))))))))))))))))))))))))))))))))))))))))))))) (zx rfl rfl (y1 rfl (zx rfl rfl (y0 (zx rfl rfl (y35 (zx rfl rfl (y1 rfl (zx rfl rfl (y0 (zx rfl rfl (y0 (zx rfl rfl (y0 (zx rfl rfl (y0 (zx rfl rfl (y18 (r := [.inl x3]) rfl rfl rfl rfl rfl (fun r12 s12 => zx rfl rfl (y35 (zx rfl rfl (y0 (zx rfl rfl (y12 (zx rfl rfl y19))))) (zx rfl rfl (y1 rfl (zx rfl rfl (y0 (zx rfl rfl (y0 (zx rfl rfl (y0 (zx rfl rfl (y0 (zx rfl rfl (y18 (r := [.inl x3]) rfl rfl rfl rfl rfl (fun r13 s13 => zx rfl rfl (y35 (zx rfl rfl (y0 (zx rfl rfl (y12 (zx rfl rfl y19))))) (zx rfl rfl (y0 (zx rfl rfl y19))))))))))))))))))))))))))))))) (zx rfl rfl (y1 rfl (zx rfl rfl (y0 (zx rfl rfl (y35 (zx rfl rfl (y1 rfl (zx rfl rfl (y0 (zx rfl rfl (y0 (zx rfl rfl (y0 (zx rfl rfl (y0 (zx rfl rfl (y18 (r := [.inl x3]) rfl rfl rfl rfl rfl (fun r14 s14 => zx rfl rfl (y35 (zx rfl rfl (y1 rfl (zx rfl rfl (y0 (zx rfl rfl ((y35 rfl rfl).trans (yel (by decide) (zxc rfl rfl rfl rfl)))))))) (zxc rfl rfl rfl rfl))))))))))))))) (zx rfl rfl (y0 (zx rfl rfl y19)))))))))))))))))))))))))))))))
set_option maxRecDepth 100000 in
theorem qX8_nameOf_38_250 (d n : Nat) (σ : zS) (x3 x4 : Int32) : zexec zc_X8_nameOf zu_X8_nameOf (zM d) (n + 1) 250 [.inl x3, .inl x4] σ = zbI (zM d mX8_spelt [.inl 101, .inl 110, .inl 100, .inl 101] σ) (fun r1 s1 => if x3 = r1 then (if x4 = 100 then (some (1, 4, s1)) else (zexec zc_X8_nameOf zu_X8_nameOf (zM d) n 276 [.inl x3, .inl x4] s1)) else (zexec zc_X8_nameOf zu_X8_nameOf (zM d) n 276 [.inl x3, .inl x4] s1)) := ze rfl rfl rfl (zx rfl rfl (y1 rfl (zx rfl rfl (y0 (zx rfl rfl (y0 (zx rfl rfl (y0 (zx rfl rfl (y0 (zx rfl rfl (y18 (r := [.inl x3]) rfl rfl rfl rfl rfl (fun r1 s1 => zx rfl rfl (y35 (zx rfl rfl (y1 rfl (zx rfl rfl (y0 (zx rfl rfl (y35 (zx rfl rfl (y0 (zx rfl rfl (y12 (zx rfl rfl y19))))) (zxc rfl rfl rfl rfl))))))) (zxc rfl rfl rfl rfl)))))))))))))))
set_option maxRecDepth 100000 in
theorem qX8_nameOf_38_276 (d n : Nat) (σ : zS) (x3 x4 : Int32) : zexec zc_X8_nameOf zu_X8_nameOf (zM d) (n + 1) 276 [.inl x3, .inl x4] σ = zbI (zM d mX8_spelt [.inl 112, .inl 97, .inl 116, .inl 99] σ) (fun r1 s1 => if x3 = r1 then (if x4 = 104 then (some (1, 7, s1)) else (some (1, 0, s1))) else (some (1, 0, s1))) := ze rfl rfl rfl (zx rfl rfl (y1 rfl (zx rfl rfl (y0 (zx rfl rfl (y0 (zx rfl rfl (y0 (zx rfl rfl (y0 (zx rfl rfl (y18 (r := [.inl x3]) rfl rfl rfl rfl rfl (fun r1 s1 => zx rfl rfl (y35 (zx rfl rfl (y1 rfl (zx rfl rfl (y0 (zx rfl rfl (y35 (zx rfl rfl (y0 (zx rfl rfl (y12 (zx rfl rfl y19))))) (zx rfl rfl (y0 (zx rfl rfl y19))))))))) (zx rfl rfl (y0 (zx rfl rfl y19)))))))))))))))))
set_option maxRecDepth 100000 in
theorem qX8_is_38_0 (d n : Nat) (σ : zS) (x1 : Int32) : zexec zc_X8_is zu_X8_is (zM d) (n + 1) 0 [.inr (.inr 38), .inl x1] σ = if (σ 38 8) < 0 ∨ 402 ≤ (σ 38 8).toNatClampNeg then (none) else (if (σ 40 ((σ 38 8).toNatClampNeg)) = 3 then (if (σ 38 8) < 0 ∨ 402 ≤ (σ 38 8).toNatClampNeg then (none) else (if (σ 42 ((σ 38 8).toNatClampNeg)) = x1 then (some (1, 1, σ)) else (some (1, 0, σ)))) else (some (1, 0, σ))) := ze rfl rfl rfl (zx rfl rfl (y2 rfl (zx rfl rfl (y14 (v := .inr (.inr 40)) rfl (zx rfl rfl (y2 rfl (zx rfl rfl (y14 (v := .inl (σ 38 8)) rfl (zx rfl rfl (y16 (v := σ 40 ((σ 38 8).toNatClampNeg)) rfl rfl (zx rfl rfl (y0 (zx rfl rfl (y35 (zx rfl rfl (y2 rfl (zx rfl rfl (y14 (v := .inr (.inr 42)) rfl (zx rfl rfl (y2 rfl (zx rfl rfl (y14 (v := .inl (σ 38 8)) rfl (zx rfl rfl (y16 (v := σ 42 ((σ 38 8).toNatClampNeg)) rfl rfl (zx rfl rfl (y1 rfl (zx rfl rfl (y35 (zx rfl rfl (y0 (zx rfl rfl (y12 (zx rfl rfl (y19l (by decide))))))) (zx rfl rfl (y0 (zx rfl rfl (y19l (by decide))))))))))))))))))) (zx rfl rfl (y0 (zx rfl rfl (y19l (by decide)))))))))))))))))))
set_option maxRecDepth 100000 in
theorem qX8_is_38 (d : Nat) (σ : zS) (x1 : Int32) : zM (d + 1) mX8_is [.inr (.inr 38), .inl x1] σ = zexec zc_X8_is zu_X8_is (zM d) (999999 + 1) 0 [.inr (.inr 38), .inl x1] σ := zM_eq (zat_X8_is) rfl (Nat.le_of_ble_eq_true rfl)
set_option maxRecDepth 100000 in
theorem qX8_readStatement_38_0 (d n : Nat) (σ : zS) : zexec zc_X8_readStatement zu_X8_readStatement (zM d) (n + 1) 0 [.inr (.inr 38)] σ = zbI (zM d mX8_is [.inr (.inr 38), .inl 63] (wr σ 38 14 ((σ 38 14) + 1))) (fun r1 s1 => if r1 = 0 then (zbI (zM d mX8_is [.inr (.inr 38), .inl 64] s1) (fun r2 s2 => if r2 = 0 then (if (s2 38 8) < 0 ∨ 402 ≤ (s2 38 8).toNatClampNeg then (none) else (if (s2 40 ((s2 38 8).toNatClampNeg)) = 1 then (if (s2 38 8) < 0 ∨ 402 ≤ (s2 38 8).toNatClampNeg then (none) else (if (s2 42 ((s2 38 8).toNatClampNeg)) = 8 then (zbI (zM d mX8_readX [.inr (.inr 38)] (wr s2 38 8 ((s2 38 8) + 1))) (fun r3 s3 => if r3 = 0 then (some (1, 0, s3)) else (zbI (zM d mX8_node [.inr (.inr 38), .inl 8, .inl (s3 38 41), .inl 0, .inl 0] s3) (fun r4 s4 => zbI (zM d mX8_want [.inr (.inr 38), .inl 59] (wr s4 38 41 r4)) (fun r5 s5 => if r5 = 0 ∨ r5 = 1 then (some (1, r5, s5)) else (none)))))) else (zexec zc_X8_readStatement zu_X8_readStatement (zM d) n 108 [.inr (.inr 38)] s2))) else (zexec zc_X8_readStatement zu_X8_readStatement (zM d) n 108 [.inr (.inr 38)] s2))) else (zbI (zM d mX8_is [.inr (.inr 38), .inl 63] s2) (fun r6 s6 => zbI (zM d mX8_readTurn [.inr (.inr 38), .inl r6] s6) (fun r7 s7 => if r7 = 0 ∨ r7 = 1 then (some (1, r7, s7)) else (none)))))) else (zbI (zM d mX8_is [.inr (.inr 38), .inl 63] s1) (fun r8 s8 => zbI (zM d mX8_readTurn [.inr (.inr 38), .inl r8] s8) (fun r9 s9 => if r9 = 0 ∨ r9 = 1 then (some (1, r9, s9)) else (none))))) := ze rfl rfl rfl (zx rfl rfl (y2 rfl (zx rfl rfl (y21 rfl (zx rfl rfl (y14 (v := .inl (σ 38 14)) rfl (zx rfl rfl (y0 (zx rfl rfl (y7 (v := (σ 38 14) + 1) rfl (zx rfl rfl (y15 rfl (zx rfl rfl (y2 rfl (zx rfl rfl (y0 (zx rfl rfl (y18 (r := []) rfl rfl rfl rfl rfl (fun r1 s1 => zx rfl rfl (y32 (zx rfl rfl (y2 rfl (zx rfl rfl (y0 (zx rfl rfl (y18 (r := []) rfl rfl rfl rfl rfl (fun r2 s2 => zx rfl rfl (y32 (zx rfl rfl (y2 rfl (zx rfl rfl (y14 (v := .inr (.inr 40)) rfl (zx rfl rfl (y2 rfl (zx rfl rfl (y14 (v := .inl (s2 38 8)) rfl (zx rfl rfl (y16 (v := s2 40 ((s2 38 8).toNatClampNeg)) rfl rfl (zx rfl rfl (y0 (zx rfl rfl (y35 (zx rfl rfl (y2 rfl (zx rfl rfl (y14 (v := .inr (.inr 42)) rfl (zx rfl rfl (y2 rfl (zx rfl rfl (y14 (v := .inl (s2 38 8)) rfl (zx rfl rfl (y16 (v := s2 42 ((s2 38 8).toNatClampNeg)) rfl rfl (zx rfl rfl (y0 (zx rfl rfl (y35 (zx rfl rfl (y2 rfl (zx rfl rfl (y21 rfl (zx rfl rfl (y14 (v := .inl (s2 38 8)) rfl (zx rfl rfl (y0 (zx rfl rfl (y7 (v := (s2 38 8) + 1) rfl (zx rfl rfl (y15 rfl (zx rfl rfl (y2 rfl (zx rfl rfl (y18 (r := []) rfl rfl rfl rfl rfl (fun r3 s3 => zx rfl rfl (y32 (zx rfl rfl (y0 (zx rfl rfl (y19l (by decide))))) (zx rfl rfl (y2 rfl (zx rfl rfl (y2 rfl (zx rfl rfl (y0 (zx rfl rfl (y2 rfl (zx rfl rfl (y14 (v := .inl (s3 38 41)) rfl (zx rfl rfl (y0 (zx rfl rfl (y0 (zx rfl rfl (y18 (r := [.inr (.inr 38)]) rfl rfl rfl rfl rfl (fun r4 s4 => zx rfl rfl (y15 rfl (zx rfl rfl (y2 rfl (zx rfl rfl (y0 (zx rfl rfl (y18 (r := []) rfl rfl rfl rfl rfl (fun r5 s5 => zx rfl rfl y19b))))))))))))))))))))))))))))))))))))))))))) (zxc rfl rfl rfl rfl))))))))))))))) (zxc rfl rfl rfl rfl))))))))))))))) (zx rfl rfl (y2 rfl (zx rfl rfl (y2 rfl (zx rfl rfl (y0 (zx rfl rfl (y18 (r := [.inr (.inr 38)]) rfl rfl rfl rfl rfl (fun r6 s6 => zx rfl rfl (y18 (r := []) rfl rfl rfl rfl rfl (fun r7 s7 => zx rfl rfl y19b))))))))))))))))))) (zx rfl rfl (y2 rfl (zx rfl rfl (y2 rfl (zx rfl rfl (y0 (zx rfl rfl (y18 (r := [.inr (.inr 38)]) rfl rfl rfl rfl rfl (fun r8 s8 => zx rfl rfl (y18 (r := []) rfl rfl rfl rfl rfl (fun r9 s9 => zx rfl rfl y19b)))))))))))))))))))))))))))))))
set_option maxRecDepth 100000 in
theorem qX8_readStatement_38 (d : Nat) (σ : zS) : zM (d + 1) mX8_readStatement [.inr (.inr 38)] σ = zexec zc_X8_readStatement zu_X8_readStatement (zM d) (999999 + 1) 0 [.inr (.inr 38)] σ := zM_eq (zat_X8_readStatement) rfl (Nat.le_of_ble_eq_true rfl)
set_option maxRecDepth 100000 in
theorem qX8_readStatement_38_108 (d n : Nat) (σ : zS) : zexec zc_X8_readStatement zu_X8_readStatement (zM d) (n + 1) 108 [.inr (.inr 38)] σ = zbI (zM d mX8_readRegister [.inr (.inr 38)] σ) (fun r1 s1 => if r1 = 0 then (some (1, 0, s1)) else (zbI (zM d mX8_want [.inr (.inr 38), .inl 61] s1) (fun r2 s2 => if r2 = 0 then (some (1, 0, s2)) else (if (s2 38 8) < 0 ∨ 402 ≤ (s2 38 8).toNatClampNeg then (none) else (if (s2 40 ((s2 38 8).toNatClampNeg)) = 1 then (if (s2 38 8) < 0 ∨ 402 ≤ (s2 38 8).toNatClampNeg then (none) else (if (s2 42 ((s2 38 8).toNatClampNeg)) < 20 then (if (s2 38 8) < 0 ∨ 402 ≤ (s2 38 8).toNatClampNeg then (none) else (if (s2 42 ((s2 38 8).toNatClampNeg)) = 0 then (zbI (zM d mX8_refuse [.inr (.inr 38)] s2) (fun r3 s3 => if r3 = 0 ∨ r3 = 1 then (some (1, r3, s3)) else (none))) else (if (s2 42 ((s2 38 8).toNatClampNeg)) = 8 then (zbI (zM d mX8_refuse [.inr (.inr 38)] s2) (fun r4 s4 => if r4 = 0 ∨ r4 = 1 then (some (1, r4, s4)) else (none))) else (if (s2 42 ((s2 38 8).toNatClampNeg)) = 10 then (zexec zc_X8_readStatement zu_X8_readStatement (zM d) n 206 [.inr (.inr 38), .inl (s1 38 42), .inl (s2 42 ((s2 38 8).toNatClampNeg))] s2) else (zexec zc_X8_readStatement zu_X8_readStatement (zM d) n 206 [.inr (.inr 38), .inl (s1 38 42), .inl (s2 42 ((s2 38 8).toNatClampNeg))] (wr s2 38 8 ((s2 38 8) + 1))))))) else (zexec zc_X8_readStatement zu_X8_readStatement (zM d) n 172 [.inr (.inr 38), .inl (s1 38 42)] s2))) else (zexec zc_X8_readStatement zu_X8_readStatement (zM d) n 172 [.inr (.inr 38), .inl (s1 38 42)] s2)))))) := ze rfl rfl rfl (zx rfl rfl (y2 rfl (zx rfl rfl (y18 (r := []) rfl rfl rfl rfl rfl (fun r1 s1 => zx rfl rfl (y32 (zx rfl rfl (y0 (zx rfl rfl (y19l (by decide))))) (zx rfl rfl (y2 rfl (zx rfl rfl (y14 (v := .inl (s1 38 42)) rfl (zx rfl rfl (y4 rfl (zx rfl rfl (y2 rfl (zx rfl rfl (y0 (zx rfl rfl (y18 (r := []) rfl rfl rfl rfl rfl (fun r2 s2 => zx rfl rfl (y32 (zx rfl rfl (y0 (zx rfl rfl (y19l (by decide))))) (zx rfl rfl (y2 rfl (zx rfl rfl (y14 (v := .inr (.inr 40)) rfl (zx rfl rfl (y2 rfl (zx rfl rfl (y14 (v := .inl (s2 38 8)) rfl (zx rfl rfl (y16 (v := s2 40 ((s2 38 8).toNatClampNeg)) rfl rfl (zx rfl rfl (y0 (zx rfl rfl (y35 (zx rfl rfl (y2 rfl (zx rfl rfl (y14 (v := .inr (.inr 42)) rfl (zx rfl rfl (y2 rfl (zx rfl rfl (y14 (v := .inl (s2 38 8)) rfl (zx rfl rfl (y16 (v := s2 42 ((s2 38 8).toNatClampNeg)) rfl rfl (zx rfl rfl (y0 (zx rfl rfl (y36 (zx rfl rfl (y2 rfl (zx rfl rfl (y14 (v := .inr (.inr 42)) rfl (zx rfl rfl (y2 rfl (zx rfl rfl (y14 (v := .inl (s2 38 8)) rfl (zx rfl rfl (y16 (v := s2 42 ((s2 38 8).toNatClampNeg)) rfl rfl (zx rfl rfl (y12 (zx rfl rfl (y4 rfl (zx rfl rfl (y1 rfl (zx rfl rfl (y32 (zx rfl rfl (y2 rfl (zx rfl rfl (y18 (r := []) rfl rfl rfl rfl rfl (fun r3 s3 => zx rfl rfl y19b))))) (zx rfl rfl (y1 rfl (zx rfl rfl (y0 (zx rfl rfl (y35 (zx rfl rfl (y2 rfl (zx rfl rfl (y18 (r := []) rfl rfl rfl rfl rfl (fun r4 s4 => zx rfl rfl y19b))))) (zx rfl rfl (y1 rfl (zx rfl rfl (y0 (zx rfl rfl (y35 (zxc rfl rfl rfl rfl) (zx rfl rfl (y2 rfl (zx rfl rfl (y21 rfl (zx rfl rfl (y14 (v := .inl (s2 38 8)) rfl (zx rfl rfl (y0 (zx rfl rfl (y7 (v := (s2 38 8) + 1) rfl (zx rfl rfl (y15 rfl (zxc rfl rfl rfl rfl))))))))))))))))))))))))))))))))))))))))))) (zxc rfl rfl rfl rfl))))))))))))))) (zxc rfl rfl rfl rfl)))))))))))))))))))))))))))))))))))
set_option maxRecDepth 100000 in
theorem qX8_readStatement_38_172 (d n : Nat) (σ : zS) (x1 : Int32) : zexec zc_X8_readStatement zu_X8_readStatement (zM d) (n + 1) 172 [.inr (.inr 38), .inl x1] σ = zexec zc_X8_readStatement zu_X8_readStatement (zM d) n 206 [.inr (.inr 38), .inl x1, .inl 10] σ := ze rfl rfl rfl (zx rfl rfl (y0 (zx rfl rfl (y4 rfl (zx rfl rfl (y1 rfl (zx rfl rfl ((y32 rfl rfl).trans (yel (by decide) (zx rfl rfl (y1 rfl (zx rfl rfl (y0 (zx rfl rfl ((y35 rfl rfl).trans (yel (by decide) (zx rfl rfl (y1 rfl (zx rfl rfl (y0 (zx rfl rfl ((y35 rfl rfl).trans (yif (by decide) (zxc rfl rfl rfl rfl))))))))))))))))))))))))
set_option maxRecDepth 100000 in
theorem qX8_readStatement_38_206 (d n : Nat) (σ : zS) (x1 x2 : Int32) : zexec zc_X8_readStatement zu_X8_readStatement (zM d) (n + 1) 206 [.inr (.inr 38), .inl x1, .inl x2] σ = if x2 = 1 then (zexec zc_X8_readStatement zu_X8_readStatement (zM d) n 222 [.inr (.inr 38), .inl x1, .inl x2, .inl 0] σ) else (if x2 = 7 then (zexec zc_X8_readStatement zu_X8_readStatement (zM d) n 222 [.inr (.inr 38), .inl x1, .inl x2, .inl 0] σ) else (zexec zc_X8_readStatement zu_X8_readStatement (zM d) n 252 [.inr (.inr 38), .inl x1, .inl x2, .inl 0, .inl 0] σ)) := ze rfl rfl rfl (zx rfl rfl (y0 (zx rfl rfl (y4 rfl (zx rfl rfl (y0 (zx rfl rfl (y4 rfl (zx rfl rfl (y1 rfl (zx rfl rfl (y0 (zx rfl rfl (y35 (zxc rfl rfl rfl rfl) (zx rfl rfl (y1 rfl (zx rfl rfl (y0 (zx rfl rfl (y35 (zxc rfl rfl rfl rfl) (zxc rfl rfl rfl rfl)))))))))))))))))))))
set_option maxRecDepth 100000 in
theorem qX8_readStatement_38_222 (d n : Nat) (σ : zS) (x1 x2 x4 : Int32) : zexec zc_X8_readStatement zu_X8_readStatement (zM d) (n + 1) 222 [.inr (.inr 38), .inl x1, .inl x2, .inl x4] σ = zbI (zM d mX8_readNumber [.inr (.inr 38)] σ) (fun r1 s1 => if r1 = 0 then (some (1, 0, s1)) else (if x2 = 1 then (zbI (zM d mX8_want [.inr (.inr 38), .inl 44] s1) (fun r2 s2 => if r2 = 0 then (some (1, 0, s2)) else (zexec zc_X8_readStatement zu_X8_readStatement (zM d) n 252 [.inr (.inr 38), .inl x1, .inl x2, .inl (s1 38 43), .inl x4] s2))) else (zexec zc_X8_readStatement zu_X8_readStatement (zM d) n 252 [.inr (.inr 38), .inl x1, .inl x2, .inl (s1 38 43), .inl x4] s1))) := ze rfl rfl rfl (zx rfl rfl (y2 rfl (zx rfl rfl (y18 (r := []) rfl rfl rfl rfl rfl (fun r1 s1 => zx rfl rfl (y32 (zx rfl rfl (y0 (zx rfl rfl (y19l (by decide))))) (zx rfl rfl (y2 rfl (zx rfl rfl (y14 (v := .inl (s1 38 43)) rfl (zx rfl rfl (y4 rfl (zx rfl rfl (y1 rfl (zx rfl rfl (y0 (zx rfl rfl (y35 (zx rfl rfl (y2 rfl (zx rfl rfl (y0 (zx rfl rfl (y18 (r := []) rfl rfl rfl rfl rfl (fun r2 s2 => zx rfl rfl (y32 (zx rfl rfl (y0 (zx rfl rfl (y19l (by decide))))) (zxc rfl rfl rfl rfl))))))))) (zxc rfl rfl rfl rfl)))))))))))))))))))
set_option maxRecDepth 100000 in
theorem qX8_readStatement_38_252 (d n : Nat) (σ : zS) (x1 x2 x3 x4 : Int32) : zexec zc_X8_readStatement zu_X8_readStatement (zM d) (n + 1) 252 [.inr (.inr 38), .inl x1, .inl x2, .inl x3, .inl x4] σ = if x2 = 9 then (zbI (zM d mX8_readRegister [.inr (.inr 38)] σ) (fun r1 s1 => if r1 = 0 then (some (1, 0, s1)) else (zexec zc_X8_readStatement zu_X8_readStatement (zM d) n 282 [.inr (.inr 38), .inl x1, .inl x2, .inl (s1 38 42), .inl x4] s1))) else (if x2 = 4 then (zbI (zM d mX8_readRegister [.inr (.inr 38)] σ) (fun r2 s2 => if r2 = 0 then (some (1, 0, s2)) else (zexec zc_X8_readStatement zu_X8_readStatement (zM d) n 282 [.inr (.inr 38), .inl x1, .inl x2, .inl (s2 38 42), .inl x4] s2))) else (if x2 = 3 then (zbI (zM d mX8_readRegister [.inr (.inr 38)] σ) (fun r3 s3 => if r3 = 0 then (some (1, 0, s3)) else (zexec zc_X8_readStatement zu_X8_readStatement (zM d) n 282 [.inr (.inr 38), .inl x1, .inl x2, .inl (s3 38 42), .inl x4] s3))) else (zexec zc_X8_readStatement zu_X8_readStatement (zM d) n 282 [.inr (.inr 38), .inl x1, .inl x2, .inl x3, .inl x4] σ))) := ze rfl rfl rfl (zx rfl rfl (y1 rfl (zx rfl rfl (y0 (zx rfl rfl (y35 (zx rfl rfl (y2 rfl (zx rfl rfl (y18 (r := []) rfl rfl rfl rfl rfl (fun r1 s1 => zx rfl rfl (y32 (zx rfl rfl (y0 (zx rfl rfl (y19l (by decide))))) (zx rfl rfl (y2 rfl (zx rfl rfl (y14 (v := .inl (s1 38 42)) rfl (zx rfl rfl (y4 rfl (zxc rfl rfl rfl rfl))))))))))))) (zx rfl rfl (y1 rfl (zx rfl rfl (y0 (zx rfl rfl (y35 (zx rfl rfl (y2 rfl (zx rfl rfl (y18 (r := []) rfl rfl rfl rfl rfl (fun r2 s2 => zx rfl rfl (y32 (zx rfl rfl (y0 (zx rfl rfl (y19l (by decide))))) (zx rfl rfl (y2 rfl (zx rfl rfl (y14 (v := .inl (s2 38 42)) rfl (zx rfl rfl (y4 rfl (zxc rfl rfl rfl rfl))))))))))))) (zx rfl rfl (y1 rfl (zx rfl rfl (y0 (zx rfl rfl (y35 (zx rfl rfl (y2 rfl (zx rfl rfl (y18 (r := []) rfl rfl rfl rfl rfl (fun r3 s3 => zx rfl rfl (y32 (zx rfl rfl (y0 (zx rfl rfl (y19l (by decide))))) (zx rfl rfl (y2 rfl (zx rfl rfl (y14 (v := .inl (s3 38 42)) rfl (zx rfl rfl (y4 rfl (zxc rfl rfl rfl rfl))))))))))))) (zxc rfl rfl rfl rfl)))))))))))))))))))
set_option maxRecDepth 100000 in
theorem qX8_readStatement_38_282 (d n : Nat) (σ : zS) (x1 x2 x3 x4 : Int32) : zexec zc_X8_readStatement zu_X8_readStatement (zM d) (n + 1) 282 [.inr (.inr 38), .inl x1, .inl x2, .inl x3, .inl x4] σ = if x2 = 3 then (zbI (zM d mX8_want [.inr (.inr 38), .inl 44] σ) (fun r1 s1 => if r1 = 0 then (some (1, 0, s1)) else (zbI (zM d mX8_readRegister [.inr (.inr 38)] s1) (fun r2 s2 => if r2 = 0 then (some (1, 0, s2)) else (zexec zc_X8_readStatement zu_X8_readStatement (zM d) n 311 [.inr (.inr 38), .inl x1, .inl x2, .inl x3, .inl (s2 38 42)] s2))))) else (zexec zc_X8_readStatement zu_X8_readStatement (zM d) n 311 [.inr (.inr 38), .inl x1, .inl x2, .inl x3, .inl x4] σ) := ze rfl rfl rfl (zx rfl rfl (y1 rfl (zx rfl rfl (y0 (zx rfl rfl (y35 (zx rfl rfl (y2 rfl (zx rfl rfl (y0 (zx rfl rfl (y18 (r := []) rfl rfl rfl rfl rfl (fun r1 s1 => zx rfl rfl (y32 (zx rfl rfl (y0 (zx rfl rfl (y19l (by decide))))) (zx rfl rfl (y2 rfl (zx rfl rfl (y18 (r := []) rfl rfl rfl rfl rfl (fun r2 s2 => zx rfl rfl (y32 (zx rfl rfl (y0 (zx rfl rfl (y19l (by decide))))) (zx rfl rfl (y2 rfl (zx rfl rfl (y14 (v := .inl (s2 38 42)) rfl (zx rfl rfl (y4 rfl (zxc rfl rfl rfl rfl))))))))))))))))))))) (zxc rfl rfl rfl rfl)))))))
set_option maxRecDepth 100000 in
theorem qX8_readStatement_38_311 (d n : Nat) (σ : zS) (x1 x2 x3 x4 : Int32) : zexec zc_X8_readStatement zu_X8_readStatement (zM d) (n + 1) 311 [.inr (.inr 38), .inl x1, .inl x2, .inl x3, .inl x4] σ = if x2 = 10 then (zbI (zM d mX8_readX [.inr (.inr 38)] σ) (fun r1 s1 => if r1 = 0 then (some (1, 0, s1)) else (zbI (zM d mX8_node [.inr (.inr 38), .inl x2, .inl x1, .inl x3, .inl (s1 38 41)] s1) (fun r2 s2 => zbI (zM d mX8_want [.inr (.inr 38), .inl 59] (wr s2 38 41 r2)) (fun r3 s3 => if r3 = 0 ∨ r3 = 1 then (some (1, r3, s3)) else (none)))))) else (if x2 = 1 then (zbI (zM d mX8_readX [.inr (.inr 38)] σ) (fun r4 s4 => if r4 = 0 then (some (1, 0, s4)) else (zbI (zM d mX8_node [.inr (.inr 38), .inl x2, .inl x1, .inl x3, .inl (s4 38 41)] s4) (fun r5 s5 => zbI (zM d mX8_want [.inr (.inr 38), .inl 59] (wr s5 38 41 r5)) (fun r6 s6 => if r6 = 0 ∨ r6 = 1 then (some (1, r6, s6)) else (none)))))) else (if x2 = 2 then (zbI (zM d mX8_readX [.inr (.inr 38)] σ) (fun r7 s7 => if r7 = 0 then (some (1, 0, s7)) else (zbI (zM d mX8_node [.inr (.inr 38), .inl x2, .inl x1, .inl x3, .inl (s7 38 41)] s7) (fun r8 s8 => zbI (zM d mX8_want [.inr (.inr 38), .inl 59] (wr s8 38 41 r8)) (fun r9 s9 => if r9 = 0 ∨ r9 = 1 then (some (1, r9, s9)) else (none)))))) else (zbI (zM d mX8_node [.inr (.inr 38), .inl x2, .inl x1, .inl x3, .inl x4] σ) (fun r10 s10 => zbI (zM d mX8_want [.inr (.inr 38), .inl 59] (wr s10 38 41 r10)) (fun r11 s11 => if r11 = 0 ∨ r11 = 1 then (some (1, r11, s11)) else (none)))))) := ze rfl rfl rfl (zx rfl rfl (y1 rfl (zx rfl rfl (y0 (zx rfl rfl (y35 (zx rfl rfl (y2 rfl (zx rfl rfl (y18 (r := []) rfl rfl rfl rfl rfl (fun r1 s1 => zx rfl rfl (y32 (zx rfl rfl (y0 (zx rfl rfl (y19l (by decide))))) (zx rfl rfl (y2 rfl (zx rfl rfl (y14 (v := .inl (s1 38 41)) rfl (zx rfl rfl (y4 rfl (zx rfl rfl (y2 rfl (zx rfl rfl (y2 rfl (zx rfl rfl (y1 rfl (zx rfl rfl (y1 rfl (zx rfl rfl (y1 rfl (zx rfl rfl (y1 rfl (zx rfl rfl (y18 (r := [.inr (.inr 38)]) rfl rfl rfl rfl rfl (fun r2 s2 => zx rfl rfl (y15 rfl (zx rfl rfl (y2 rfl (zx rfl rfl (y0 (zx rfl rfl (y18 (r := []) rfl rfl rfl rfl rfl (fun r3 s3 => zx rfl rfl y19b))))))))))))))))))))))))))))))))))) (zx rfl rfl (y1 rfl (zx rfl rfl (y0 (zx rfl rfl (y35 (zx rfl rfl (y2 rfl (zx rfl rfl (y18 (r := []) rfl rfl rfl rfl rfl (fun r4 s4 => zx rfl rfl (y32 (zx rfl rfl (y0 (zx rfl rfl (y19l (by decide))))) (zx rfl rfl (y2 rfl (zx rfl rfl (y14 (v := .inl (s4 38 41)) rfl (zx rfl rfl (y4 rfl (zx rfl rfl (y2 rfl (zx rfl rfl (y2 rfl (zx rfl rfl (y1 rfl (zx rfl rfl (y1 rfl (zx rfl rfl (y1 rfl (zx rfl rfl (y1 rfl (zx rfl rfl (y18 (r := [.inr (.inr 38)]) rfl rfl rfl rfl rfl (fun r5 s5 => zx rfl rfl (y15 rfl (zx rfl rfl (y2 rfl (zx rfl rfl (y0 (zx rfl rfl (y18 (r := []) rfl rfl rfl rfl rfl (fun r6 s6 => zx rfl rfl y19b))))))))))))))))))))))))))))))))))) (zx rfl rfl (y1 rfl (zx rfl rfl (y0 (zx rfl rfl (y35 (zx rfl rfl (y2 rfl (zx rfl rfl (y18 (r := []) rfl rfl rfl rfl rfl (fun r7 s7 => zx rfl rfl (y32 (zx rfl rfl (y0 (zx rfl rfl (y19l (by decide))))) (zx rfl rfl (y2 rfl (zx rfl rfl (y14 (v := .inl (s7 38 41)) rfl (zx rfl rfl (y4 rfl (zx rfl rfl (y2 rfl (zx rfl rfl (y2 rfl (zx rfl rfl (y1 rfl (zx rfl rfl (y1 rfl (zx rfl rfl (y1 rfl (zx rfl rfl (y1 rfl (zx rfl rfl (y18 (r := [.inr (.inr 38)]) rfl rfl rfl rfl rfl (fun r8 s8 => zx rfl rfl (y15 rfl (zx rfl rfl (y2 rfl (zx rfl rfl (y0 (zx rfl rfl (y18 (r := []) rfl rfl rfl rfl rfl (fun r9 s9 => zx rfl rfl y19b))))))))))))))))))))))))))))))))))) (zx rfl rfl (y2 rfl (zx rfl rfl (y2 rfl (zx rfl rfl (y1 rfl (zx rfl rfl (y1 rfl (zx rfl rfl (y1 rfl (zx rfl rfl (y1 rfl (zx rfl rfl (y18 (r := [.inr (.inr 38)]) rfl rfl rfl rfl rfl (fun r10 s10 => zx rfl rfl (y15 rfl (zx rfl rfl (y2 rfl (zx rfl rfl (y0 (zx rfl rfl (y18 (r := []) rfl rfl rfl rfl rfl (fun r11 s11 => zx rfl rfl y19b)))))))))))))))))))))))))))))))))))))))))
set_option maxRecDepth 100000 in
theorem qX8_begins_38_0 (d n : Nat) (σ : zS) : zexec zc_X8_begins zu_X8_begins (zM d) (n + 1) 0 [.inr (.inr 38)] σ = if (σ 38 20) = 200 then (some (0, 0, wr σ 38 31 5)) else (zbV (zM d mX8_append [.inr (.inr 38), .inl 0, .inl 0, .inl (σ 38 39)] (wr (wr (wr σ 38 34 1) 38 32 (σ 38 20)) 38 35 (σ 38 20))) (fun s1 => some (0, 0, s1))) := ze rfl rfl rfl (zx rfl rfl (y2 rfl (zx rfl rfl (y14 (v := .inl (σ 38 20)) rfl (zx rfl rfl (y0 (zx rfl rfl (y35 (zx rfl rfl (y2 rfl (zx rfl rfl (y0 (zx rfl rfl (y15 rfl (zx rfl rfl y20))))))) (zx rfl rfl (y2 rfl (zx rfl rfl (y0 (zx rfl rfl (y31l rfl (by decide) (zx rfl rfl (y2 rfl (zx rfl rfl (y2 rfl (zx rfl rfl (y14 (v := .inl (σ 38 20)) rfl (zx rfl rfl (y15 rfl (zx rfl rfl (y2 rfl (zx rfl rfl (y2 rfl (zx rfl rfl (y14 (v := .inl (σ 38 20)) rfl (zx rfl rfl (y15 rfl (zx rfl rfl (y2 rfl (zx rfl rfl (y0 (zx rfl rfl (y0 (zx rfl rfl (y2 rfl (zx rfl rfl (y14 (v := .inl (σ 38 39)) rfl (zx rfl rfl (y30 (r := []) rfl rfl rfl rfl rfl (fun s1 => zx rfl rfl y20)))))))))))))))))))))))))))))))))))))))))))
set_option maxRecDepth 100000 in
theorem qX8_begins_38 (d : Nat) (σ : zS) : zM (d + 1) mX8_begins [.inr (.inr 38)] σ = zexec zc_X8_begins zu_X8_begins (zM d) (999999 + 1) 0 [.inr (.inr 38)] σ := zM_eq (zat_X8_begins) rfl (Nat.le_of_ble_eq_true rfl)
set_option maxRecDepth 100000 in
theorem qX8_list_38_0 (d n : Nat) (σ : zS) (x1 : Int32) : zexec zc_X8_list zu_X8_list (zM d) (n + 1) 0 [.inr (.inr 38), .inl x1] σ = zexec zc_X8_list zu_X8_list (zM d) n 2 [.inr (.inr 38), .inl x1] σ := ze rfl rfl rfl (zx rfl rfl (y1 rfl (zx rfl rfl (y4 rfl (zxc rfl rfl rfl rfl)))))
set_option maxRecDepth 100000 in
theorem qX8_list_38 (d : Nat) (σ : zS) (x1 : Int32) : zM (d + 1) mX8_list [.inr (.inr 38), .inl x1] σ = zexec zc_X8_list zu_X8_list (zM d) (999999 + 1) 0 [.inr (.inr 38), .inl x1] σ := zM_eq (zat_X8_list) rfl (Nat.le_of_ble_eq_true rfl)
set_option maxRecDepth 100000 in
theorem qX8_list_38_2 (d n : Nat) (σ : zS) (x2 : Int32) : zexec zc_X8_list zu_X8_list (zM d) (n + 1) 2 [.inr (.inr 38), .inl x2] σ = if x2 = (-1) then (some (0, 0, σ)) else (if (σ 38 31) = 0 then (if x2 < 0 ∨ 1600 ≤ x2.toNatClampNeg then (none) else (if (σ 45 x2.toNatClampNeg) = 12 then (zbV (zM d mX8_turn [.inr (.inr 38), .inl x2] σ) (fun s1 => if x2 < 0 ∨ 1600 ≤ x2.toNatClampNeg then (none) else (zexec zc_X8_list zu_X8_list (zM d) n 2 [.inr (.inr 38), .inl (s1 49 x2.toNatClampNeg)] s1))) else (zbI (zM d mX8_step [.inr (.inr 38)] σ) (fun r2 s2 => if r2 = 0 then (if x2 < 0 ∨ 1600 ≤ x2.toNatClampNeg then (none) else (zexec zc_X8_list zu_X8_list (zM d) n 2 [.inr (.inr 38), .inl (s2 49 x2.toNatClampNeg)] s2)) else (zbV (zM d mX8_statement [.inr (.inr 38), .inl x2] s2) (fun s3 => if x2 < 0 ∨ 1600 ≤ x2.toNatClampNeg then (none) else (zexec zc_X8_list zu_X8_list (zM d) n 2 [.inr (.inr 38), .inl (s3 49 x2.toNatClampNeg)] s3))))))) else (some (0, 0, σ))) := ze rfl rfl rfl (zx rfl rfl (y1 rfl (zx rfl rfl (y0 (zx rfl rfl (y35 (zx rfl rfl y20) (zx rfl rfl (y2 rfl (zx rfl rfl (y14 (v := .inl (σ 38 31)) rfl (zx rfl rfl (y32 (zx rfl rfl (y2 rfl (zx rfl rfl (y14 (v := .inr (.inr 45)) rfl (zx rfl rfl (y1 rfl (zx rfl rfl (y16 (v := σ 45 x2.toNatClampNeg) rfl rfl (zx rfl rfl (y0 (zx rfl rfl (y35 (zx rfl rfl (y2 rfl (zx rfl rfl (y1 rfl (zx rfl rfl (y30 (r := []) rfl rfl rfl rfl rfl (fun s1 => zx rfl rfl (y12 (zx rfl rfl (y2 rfl (zx rfl rfl (y14 (v := .inr (.inr 49)) rfl (zx rfl rfl (y1 rfl (zx rfl rfl (y16 (v := s1 49 x2.toNatClampNeg) rfl rfl (zx rfl rfl (y4 rfl (zx rfl rfl (y12 (zxc rfl rfl rfl rfl))))))))))))))))))))) (zx rfl rfl (y2 rfl (zx rfl rfl (y18 (r := []) rfl rfl rfl rfl rfl (fun r2 s2 => zx rfl rfl (y32 (zx rfl rfl (y2 rfl (zx rfl rfl (y14 (v := .inr (.inr 49)) rfl (zx rfl rfl (y1 rfl (zx rfl rfl (y16 (v := s2 49 x2.toNatClampNeg) rfl rfl (zx rfl rfl (y4 rfl (zx rfl rfl (y12 (zxc rfl rfl rfl rfl))))))))))))) (zx rfl rfl (y2 rfl (zx rfl rfl (y1 rfl (zx rfl rfl (y30 (r := []) rfl rfl rfl rfl rfl (fun s3 => zx rfl rfl (y2 rfl (zx rfl rfl (y14 (v := .inr (.inr 49)) rfl (zx rfl rfl (y1 rfl (zx rfl rfl (y16 (v := s3 49 x2.toNatClampNeg) rfl rfl (zx rfl rfl (y4 rfl (zx rfl rfl (y12 (zxc rfl rfl rfl rfl))))))))))))))))))))))))))))))))))))) (zx rfl rfl y20)))))))))))))
set_option maxRecDepth 100000 in
theorem qX8_stop_38_0 (d n : Nat) (σ : zS) (x1 : Int32) : zexec zc_X8_stop zu_X8_stop (zM d) (n + 1) 0 [.inr (.inr 38), .inl x1] σ = zbI (zM d mX8_command [.inr (.inr 38), .inl 4, .inl 0, .inl x1] σ) (fun r1 s1 => if r1 = (-1) then (some (0, 0, s1)) else (zexec zc_X8_stop zu_X8_stop (zM d) n 17 [.inr (.inr 38)] (wr s1 38 38 1))) := ze rfl rfl rfl (zx rfl rfl (y2 rfl (zx rfl rfl (y0 (zx rfl rfl (y0 (zx rfl rfl (y1 rfl (zx rfl rfl (y18 (r := []) rfl rfl rfl rfl rfl (fun r1 s1 => zx rfl rfl (y0 (zx rfl rfl (y35 (zx rfl rfl y20) (zx rfl rfl (y2 rfl (zx rfl rfl (y0 (zx rfl rfl (y31l rfl (by decide) (zxc rfl rfl rfl rfl)))))))))))))))))))))
set_option maxRecDepth 100000 in
theorem qX8_stop_38 (d : Nat) (σ : zS) (x1 : Int32) : zM (d + 1) mX8_stop [.inr (.inr 38), .inl x1] σ = zexec zc_X8_stop zu_X8_stop (zM d) (999999 + 1) 0 [.inr (.inr 38), .inl x1] σ := zM_eq (zat_X8_stop) rfl (Nat.le_of_ble_eq_true rfl)
set_option maxRecDepth 100000 in
theorem qX8_stop_38_17 (d n : Nat) (σ : zS) : zexec zc_X8_stop zu_X8_stop (zM d) (n + 1) 17 [.inr (.inr 38)] σ = if (σ 38 31) = 0 then (zbV (zM d mX8_goOn [.inr (.inr 38)] σ) (fun s1 => zexec zc_X8_stop zu_X8_stop (zM d) n 17 [.inr (.inr 38)] s1)) else (some (0, 0, σ)) := ze rfl rfl rfl (zx rfl rfl (y2 rfl (zx rfl rfl (y14 (v := .inl (σ 38 31)) rfl (zx rfl rfl (y32 (zx rfl rfl (y2 rfl (zx rfl rfl (y30 (r := []) rfl rfl rfl rfl rfl (fun s1 => zx rfl rfl (y12 (zxc rfl rfl rfl rfl))))))) (zx rfl rfl y20)))))))
set_option maxRecDepth 100000 in
theorem qX8_spelt_0 (d n : Nat) (σ : zS) (x0 x1 x2 x3 : Int32) : zexec zc_X8_spelt zu_X8_spelt (zM d) (n + 1) 0 [.inl x0, .inl x1, .inl x2, .inl x3] σ = some (1, (((((x0 <<< (8 &&& 31)) ||| x1) <<< (8 &&& 31)) ||| x2) <<< (8 &&& 31)) ||| x3, σ) := ze rfl rfl rfl (zx rfl rfl (y1 rfl (zx rfl rfl (y0 (zx rfl rfl (y7 (v := x0 <<< (8 &&& 31)) rfl (zx rfl rfl (y1 rfl (zx rfl rfl (y7 (v := (x0 <<< (8 &&& 31)) ||| x1) rfl (zx rfl rfl (y0 (zx rfl rfl (y7 (v := ((x0 <<< (8 &&& 31)) ||| x1) <<< (8 &&& 31)) rfl (zx rfl rfl (y1 rfl (zx rfl rfl (y7 (v := (((x0 <<< (8 &&& 31)) ||| x1) <<< (8 &&& 31)) ||| x2) rfl (zx rfl rfl (y0 (zx rfl rfl (y7 (v := ((((x0 <<< (8 &&& 31)) ||| x1) <<< (8 &&& 31)) ||| x2) <<< (8 &&& 31)) rfl (zx rfl rfl (y1 rfl (zx rfl rfl (y7 (v := (((((x0 <<< (8 &&& 31)) ||| x1) <<< (8 &&& 31)) ||| x2) <<< (8 &&& 31)) ||| x3) rfl (zx rfl rfl y19)))))))))))))))))))))))))))
set_option maxRecDepth 100000 in
theorem qX8_spelt (d : Nat) (σ : zS) (x0 x1 x2 x3 : Int32) : zM (d + 1) mX8_spelt [.inl x0, .inl x1, .inl x2, .inl x3] σ = zexec zc_X8_spelt zu_X8_spelt (zM d) (999999 + 1) 0 [.inl x0, .inl x1, .inl x2, .inl x3] σ := zM_eq (zat_X8_spelt) rfl (Nat.le_of_ble_eq_true rfl)
set_option maxRecDepth 100000 in
theorem qX8_readX_38_0 (d n : Nat) (σ : zS) : zexec zc_X8_readX zu_X8_readX (zM d) (n + 1) 0 [.inr (.inr 38)] σ = zbI (zM d mX8_readSum [.inr (.inr 38)] σ) (fun r1 s1 => if r1 = 0 then (some (1, 0, s1)) else (zbI (zM d mX8_takes [.inr (.inr 38), .inl 60] s1) (fun r2 s2 => if r2 = 0 then (some (1, 1, s2)) else (zbI (zM d mX8_readSum [.inr (.inr 38)] s2) (fun r3 s3 => if r3 = 0 then (some (1, 0, s3)) else (zbI (zM d mX8_node [.inr (.inr 38), .inl 60, .inl (s2 38 41), .inl (s3 38 41), .inl 0] s3) (fun r4 s4 => some (1, 1, wr s4 38 41 r4)))))))) := ze rfl rfl rfl (zx rfl rfl (y2 rfl (zx rfl rfl (y18 (r := []) rfl rfl rfl rfl rfl (fun r1 s1 => zx rfl rfl (y32 (zx rfl rfl (y0 (zx rfl rfl (y19l (by decide))))) (zx rfl rfl (y2 rfl (zx rfl rfl (y0 (zx rfl rfl (y18 (r := []) rfl rfl rfl rfl rfl (fun r2 s2 => zx rfl rfl (y32 (zx rfl rfl (y0 (zx rfl rfl (y19l (by decide))))) (zx rfl rfl (y2 rfl (zx rfl rfl (y14 (v := .inl (s2 38 41)) rfl (zx rfl rfl (y4 rfl (zx rfl rfl (y2 rfl (zx rfl rfl (y18 (r := []) rfl rfl rfl rfl rfl (fun r3 s3 => zx rfl rfl (y32 (zx rfl rfl (y0 (zx rfl rfl (y19l (by decide))))) (zx rfl rfl (y2 rfl (zx rfl rfl (y2 rfl (zx rfl rfl (y0 (zx rfl rfl (y1 rfl (zx rfl rfl (y2 rfl (zx rfl rfl (y14 (v := .inl (s3 38 41)) rfl (zx rfl rfl (y0 (zx rfl rfl (y18 (r := [.inr (.inr 38)]) rfl rfl rfl rfl rfl (fun r4 s4 => zx rfl rfl (y15 rfl (zx rfl rfl (y0 (zx rfl rfl (y19l (by decide)))))))))))))))))))))))))))))))))))))))))))))))))
set_option maxRecDepth 100000 in
theorem qX8_readX_38 (d : Nat) (σ : zS) : zM (d + 1) mX8_readX [.inr (.inr 38)] σ = zexec zc_X8_readX zu_X8_readX (zM d) (999999 + 1) 0 [.inr (.inr 38)] σ := zM_eq (zat_X8_readX) rfl (Nat.le_of_ble_eq_true rfl)
set_option maxRecDepth 100000 in
theorem qX8_node_38_0 (d n : Nat) (σ : zS) (x1 x2 x3 x4 : Int32) : zexec zc_X8_node zu_X8_node (zM d) (n + 1) 0 [.inr (.inr 38), .inl x1, .inl x2, .inl x3, .inl x4] σ = if (1 - (σ 38 10)) < 0 ∨ 2 ≤ (1 - (σ 38 10)).toNatClampNeg then (none) else (zexec zc_X8_node zu_X8_node (zM d) n 24 [.inr (.inr 38), .inl x1, .inl x2, .inl x3, .inl x4, .inl ((800 * (1 - (σ 38 10))) + (σ 44 ((1 - (σ 38 10)).toNatClampNeg)))] σ) := ze rfl rfl rfl (zx rfl rfl (y0 (zx rfl rfl (y0 (zx rfl rfl (y2 rfl (zx rfl rfl (y14 (v := .inl (σ 38 10)) rfl (zx rfl rfl (y7 (v := 1 - (σ 38 10)) rfl (zx rfl rfl (y7 (v := 800 * (1 - (σ 38 10))) rfl (zx rfl rfl (y2 rfl (zx rfl rfl (y14 (v := .inr (.inr 44)) rfl (zx rfl rfl (y0 (zx rfl rfl (y2 rfl (zx rfl rfl (y14 (v := .inl (σ 38 10)) rfl (zx rfl rfl (y7 (v := 1 - (σ 38 10)) rfl (zx rfl rfl (y16 (v := σ 44 ((1 - (σ 38 10)).toNatClampNeg)) rfl rfl (zx rfl rfl (y7 (v := (800 * (1 - (σ 38 10))) + (σ 44 ((1 - (σ 38 10)).toNatClampNeg))) rfl (zx rfl rfl (y4 rfl (zxc rfl rfl rfl rfl)))))))))))))))))))))))))))))))
set_option maxRecDepth 100000 in
theorem qX8_node_38 (d : Nat) (σ : zS) (x1 x2 x3 x4 : Int32) : zM (d + 1) mX8_node [.inr (.inr 38), .inl x1, .inl x2, .inl x3, .inl x4] σ = zexec zc_X8_node zu_X8_node (zM d) (999999 + 1) 0 [.inr (.inr 38), .inl x1, .inl x2, .inl x3, .inl x4] σ := zM_eq (zat_X8_node) rfl (Nat.le_of_ble_eq_true rfl)
set_option maxRecDepth 100000 in
theorem qX8_node_38_24 (d n : Nat) (σ : zS) (x1 x2 x3 x4 x5 : Int32) : zexec zc_X8_node zu_X8_node (zM d) (n + 1) 24 [.inr (.inr 38), .inl x1, .inl x2, .inl x3, .inl x4, .inl x5] σ = if (1 - (σ 38 10)) < 0 ∨ 2 ≤ (1 - (σ 38 10)).toNatClampNeg then (none) else (if (1 - (σ 38 10)) < 0 ∨ 2 ≤ (1 - (σ 38 10)).toNatClampNeg then (none) else (if x5 < 0 ∨ 1600 ≤ x5.toNatClampNeg then (none) else (zexec zc_X8_node zu_X8_node (zM d) n 47 [.inr (.inr 38), .inl x2, .inl x3, .inl x4, .inl x5] (wr (wr σ 44 ((1 - (σ 38 10)).toNatClampNeg) ((σ 44 ((1 - (σ 38 10)).toNatClampNeg)) + 1)) 45 x5.toNatClampNeg x1)))) := ze rfl rfl rfl (zx rfl rfl (y2 rfl (zx rfl rfl (y14 (v := .inr (.inr 44)) rfl (zx rfl rfl (y0 (zx rfl rfl (y2 rfl (zx rfl rfl (y14 (v := .inl (σ 38 10)) rfl (zx rfl rfl (y7 (v := 1 - (σ 38 10)) rfl (zx rfl rfl (y23 ⟨rfl, rfl⟩ (zx rfl rfl (y16 (v := σ 44 ((1 - (σ 38 10)).toNatClampNeg)) rfl rfl (zx rfl rfl (y0 (zx rfl rfl (y7 (v := (σ 44 ((1 - (σ 38 10)).toNatClampNeg)) + 1) rfl (zx rfl rfl (y17 rfl (zx rfl rfl (y2 rfl (zx rfl rfl (y14 (v := .inr (.inr 45)) rfl (zx rfl rfl (y1 rfl (zx rfl rfl (y1 rfl (zx rfl rfl (y17 rfl (zxc rfl rfl rfl rfl)))))))))))))))))))))))))))))))))
set_option maxRecDepth 100000 in
theorem qX8_node_38_47 (d n : Nat) (σ : zS) (x2 x3 x4 x5 : Int32) : zexec zc_X8_node zu_X8_node (zM d) (n + 1) 47 [.inr (.inr 38), .inl x2, .inl x3, .inl x4, .inl x5] σ = if x5 < 0 ∨ 1600 ≤ x5.toNatClampNeg then (none) else (if x5 < 0 ∨ 1600 ≤ x5.toNatClampNeg then (none) else (zexec zc_X8_node zu_X8_node (zM d) n 63 [.inr (.inr 38), .inl x4, .inl x5] (wr (wr σ 46 x5.toNatClampNeg x2) 47 x5.toNatClampNeg x3))) := ze rfl rfl rfl (zx rfl rfl (y2 rfl (zx rfl rfl (y14 (v := .inr (.inr 46)) rfl (zx rfl rfl (y1 rfl (zx rfl rfl (y1 rfl (zx rfl rfl (y17 rfl (zx rfl rfl (y2 rfl (zx rfl rfl (y14 (v := .inr (.inr 47)) rfl (zx rfl rfl (y1 rfl (zx rfl rfl (y1 rfl (zx rfl rfl (y17 rfl (zxc rfl rfl rfl rfl)))))))))))))))))))))
set_option maxRecDepth 100000 in
theorem qX8_node_38_63 (d n : Nat) (σ : zS) (x4 x5 : Int32) : zexec zc_X8_node zu_X8_node (zM d) (n + 1) 63 [.inr (.inr 38), .inl x4, .inl x5] σ = if x5 < 0 ∨ 1600 ≤ x5.toNatClampNeg then (none) else (if x5 < 0 ∨ 1600 ≤ x5.toNatClampNeg then (none) else (some (1, x5, wr (wr σ 48 x5.toNatClampNeg x4) 49 x5.toNatClampNeg (-1)))) := ze rfl rfl rfl (zx rfl rfl (y2 rfl (zx rfl rfl (y14 (v := .inr (.inr 48)) rfl (zx rfl rfl (y1 rfl (zx rfl rfl (y1 rfl (zx rfl rfl (y17 rfl (zx rfl rfl (y2 rfl (zx rfl rfl (y14 (v := .inr (.inr 49)) rfl (zx rfl rfl (y1 rfl (zx rfl rfl (y0 (zx rfl rfl (y17 rfl (zx rfl rfl (y1 rfl (zx rfl rfl y19)))))))))))))))))))))))
set_option maxRecDepth 100000 in
theorem qX8_want_38_0 (d n : Nat) (σ : zS) (x1 : Int32) : zexec zc_X8_want zu_X8_want (zM d) (n + 1) 0 [.inr (.inr 38), .inl x1] σ = zbI (zM d mX8_takes [.inr (.inr 38), .inl x1] σ) (fun r1 s1 => if r1 = 0 then (zbI (zM d mX8_refuse [.inr (.inr 38)] s1) (fun r2 s2 => if r2 = 0 then (some (1, 0, s2)) else (some (1, 1, s2)))) else (some (1, 1, s1))) := ze rfl rfl rfl (zx rfl rfl (y2 rfl (zx rfl rfl (y1 rfl (zx rfl rfl (y18 (r := []) rfl rfl rfl rfl rfl (fun r1 s1 => zx rfl rfl (y32 (zx rfl rfl (y2 rfl (zx rfl rfl (y18 (r := []) rfl rfl rfl rfl rfl (fun r2 s2 => zx rfl rfl (y32 (zx rfl rfl (y0 (zx rfl rfl (y19l (by decide))))) (zx rfl rfl (y0 (zx rfl rfl (y12 (zx rfl rfl (y19l (by decide))))))))))))) (zx rfl rfl (y0 (zx rfl rfl (y12 (zx rfl rfl (y19l (by decide)))))))))))))))
set_option maxRecDepth 100000 in
theorem qX8_want_38 (d : Nat) (σ : zS) (x1 : Int32) : zM (d + 1) mX8_want [.inr (.inr 38), .inl x1] σ = zexec zc_X8_want zu_X8_want (zM d) (999999 + 1) 0 [.inr (.inr 38), .inl x1] σ := zM_eq (zat_X8_want) rfl (Nat.le_of_ble_eq_true rfl)
set_option maxRecDepth 100000 in
theorem qX8_readTurn_38_0 (d n : Nat) (σ : zS) (x1 : Int32) : zexec zc_X8_readTurn zu_X8_readTurn (zM d) (n + 1) 0 [.inr (.inr 38), .inl x1] σ = zbI (zM d mX8_deeper [.inr (.inr 38)] σ) (fun r1 s1 => if r1 = 0 then (some (1, 0, s1)) else (zbI (zM d mX8_readX [.inr (.inr 38)] s1) (fun r2 s2 => if r2 = 0 then (some (1, 0, s2)) else (zbI (zM d mX8_want [.inr (.inr 38), .inl 91] s2) (fun r3 s3 => if r3 = 0 then (some (1, 0, s3)) else (zbI (zM d mX8_readList [.inr (.inr 38)] s3) (fun r4 s4 => if r4 = 0 then (some (1, 0, s4)) else (if x1 = 0 then (zbI (zM d mX8_want [.inr (.inr 38), .inl 93] s4) (fun r5 s5 => if r5 = 0 then (some (1, 0, s5)) else (if x1 = 0 then (zbI (zM d mX8_node [.inr (.inr 38), .inl 12, .inl (s2 38 41), .inl (s4 38 41), .inl (-1)] (wr s5 38 9 ((s5 38 9) - 1))) (fun r6 s6 => some (1, 1, wr s6 38 41 r6))) else (zbI (zM d mX8_node [.inr (.inr 38), .inl 11, .inl (s2 38 41), .inl (s4 38 41), .inl (-1)] (wr s5 38 9 ((s5 38 9) - 1))) (fun r7 s7 => some (1, 1, wr s7 38 41 r7)))))) else (zbI (zM d mX8_want [.inr (.inr 38), .inl 124] s4) (fun r8 s8 => if r8 = 0 then (some (1, 0, s8)) else (zbI (zM d mX8_readList [.inr (.inr 38)] s8) (fun r9 s9 => if r9 = 0 then (some (1, 0, s9)) else (zbI (zM d mX8_want [.inr (.inr 38), .inl 93] s9) (fun r10 s10 => if r10 = 0 then (some (1, 0, s10)) else (if x1 = 0 then (zbI (zM d mX8_node [.inr (.inr 38), .inl 12, .inl (s2 38 41), .inl (s4 38 41), .inl (s9 38 41)] (wr s10 38 9 ((s10 38 9) - 1))) (fun r11 s11 => some (1, 1, wr s11 38 41 r11))) else (zbI (zM d mX8_node [.inr (.inr 38), .inl 11, .inl (s2 38 41), .inl (s4 38 41), .inl (s9 38 41)] (wr s10 38 9 ((s10 38 9) - 1))) (fun r12 s12 => some (1, 1, wr s12 38 41 r12)))))))))))))))))) := ze rfl rfl rfl (zx rfl rfl (y2 rfl (zx rfl rfl (y18 (r := []) rfl rfl rfl rfl rfl (fun r1 s1 => zx rfl rfl (y32 (zx rfl rfl (y0 (zx rfl rfl (y19l (by decide))))) (zx rfl rfl (y2 rfl (zx rfl rfl (y18 (r := []) rfl rfl rfl rfl rfl (fun r2 s2 => zx rfl rfl (y32 (zx rfl rfl (y0 (zx rfl rfl (y19l (by decide))))) (zx rfl rfl (y2 rfl (zx rfl rfl (y14 (v := .inl (s2 38 41)) rfl (zx rfl rfl (y4 rfl (zx rfl rfl (y2 rfl (zx rfl rfl (y0 (zx rfl rfl (y18 (r := []) rfl rfl rfl rfl rfl (fun r3 s3 => zx rfl rfl (y32 (zx rfl rfl (y0 (zx rfl rfl (y19l (by decide))))) (zx rfl rfl (y2 rfl (zx rfl rfl (y18 (r := []) rfl rfl rfl rfl rfl (fun r4 s4 => zx rfl rfl (y32 (zx rfl rfl (y0 (zx rfl rfl (y19l (by decide))))) (zx rfl rfl (y2 rfl (zx rfl rfl (y14 (v := .inl (s4 38 41)) rfl (zx rfl rfl (y4 rfl (zx rfl rfl (y0 (zx rfl rfl (y4 rfl (zx rfl rfl (y1 rfl (zx rfl rfl (y32 (zx rfl rfl (y2 rfl (zx rfl rfl (y0 (zx rfl rfl (y18 (r := []) rfl rfl rfl rfl rfl (fun r5 s5 => zx rfl rfl (y32 (zx rfl rfl (y0 (zx rfl rfl (y19l (by decide))))) (zx rfl rfl (y2 rfl (zx rfl rfl (y21 rfl (zx rfl rfl (y14 (v := .inl (s5 38 9)) rfl (zx rfl rfl (y0 (zx rfl rfl (y7 (v := (s5 38 9) - 1) rfl (zx rfl rfl (y15 rfl (zx rfl rfl (y2 rfl (zx rfl rfl (y2 rfl (zx rfl rfl (y1 rfl (zx rfl rfl (y32 (zx rfl rfl (y0 (zx rfl rfl (y1 rfl (zx rfl rfl (y1 rfl (zx rfl rfl (y1 rfl (zx rfl rfl (y18 (r := [.inr (.inr 38)]) rfl rfl rfl rfl rfl (fun r6 s6 => zx rfl rfl (y15 rfl (zx rfl rfl (y0 (zx rfl rfl (y19l (by decide))))))))))))))))) (zx rfl rfl (y0 (zx rfl rfl (y12 (zx rfl rfl (y1 rfl (zx rfl rfl (y1 rfl (zx rfl rfl (y1 rfl (zx rfl rfl (y18 (r := [.inr (.inr 38)]) rfl rfl rfl rfl rfl (fun r7 s7 => zx rfl rfl (y15 rfl (zx rfl rfl (y0 (zx rfl rfl (y19l (by decide))))))))))))))))))))))))))))))))))))))))))))))) (zx rfl rfl (y2 rfl (zx rfl rfl (y0 (zx rfl rfl (y18 (r := []) rfl rfl rfl rfl rfl (fun r8 s8 => zx rfl rfl (y32 (zx rfl rfl (y0 (zx rfl rfl (y19l (by decide))))) (zx rfl rfl (y2 rfl (zx rfl rfl (y18 (r := []) rfl rfl rfl rfl rfl (fun r9 s9 => zx rfl rfl (y32 (zx rfl rfl (y0 (zx rfl rfl (y19l (by decide))))) (zx rfl rfl (y2 rfl (zx rfl rfl (y14 (v := .inl (s9 38 41)) rfl (zx rfl rfl (y4 rfl (zx rfl rfl (y2 rfl (zx rfl rfl (y0 (zx rfl rfl (y18 (r := []) rfl rfl rfl rfl rfl (fun r10 s10 => zx rfl rfl (y32 (zx rfl rfl (y0 (zx rfl rfl (y19l (by decide))))) (zx rfl rfl (y2 rfl (zx rfl rfl (y21 rfl (zx rfl rfl (y14 (v := .inl (s10 38 9)) rfl (zx rfl rfl (y0 (zx rfl rfl (y7 (v := (s10 38 9) - 1) rfl (zx rfl rfl (y15 rfl (zx rfl rfl (y2 rfl (zx rfl rfl (y2 rfl (zx rfl rfl (y1 rfl (zx rfl rfl (y32 (zx rfl rfl (y0 (zx rfl rfl (y1 rfl (zx rfl rfl (y1 rfl (zx rfl rfl (y1 rfl (zx rfl rfl (y18 (r := [.inr (.inr 38)]) rfl rfl rfl rfl rfl (fun r11 s11 => zx rfl rfl (y15 rfl (zx rfl rfl (y0 (zx rfl rfl (y19l (by decide))))))))))))))))) (zx rfl rfl (y0 (zx rfl rfl (y12 (zx rfl rfl (y1 rfl (zx rfl rfl (y1 rfl (zx rfl rfl (y1 rfl (zx rfl rfl (y18 (r := [.inr (.inr 38)]) rfl rfl rfl rfl rfl (fun r12 s12 => zx rfl rfl (y15 rfl (zx rfl rfl (y0 (zx rfl rfl (y19l (by decide)))))))))))))))))))))))))))))))))))))))))))))))))))))))))))))))))))))))))))))))))))))))))))))))))))))))))))))))))
set_option maxRecDepth 100000 in
theorem qX8_readTurn_38 (d : Nat) (σ : zS) (x1 : Int32) : zM (d + 1) mX8_readTurn [.inr (.inr 38), .inl x1] σ = zexec zc_X8_readTurn zu_X8_readTurn (zM d) (999999 + 1) 0 [.inr (.inr 38), .inl x1] σ := zM_eq (zat_X8_readTurn) rfl (Nat.le_of_ble_eq_true rfl)
set_option maxRecDepth 100000 in
theorem qX8_readRegister_38_0 (d n : Nat) (σ : zS) : zexec zc_X8_readRegister zu_X8_readRegister (zM d) (n + 1) 0 [.inr (.inr 38)] σ = if (σ 38 8) < 0 ∨ 402 ≤ (σ 38 8).toNatClampNeg then (none) else (if (σ 40 ((σ 38 8).toNatClampNeg)) = 1 then (if (σ 38 8) < 0 ∨ 402 ≤ (σ 38 8).toNatClampNeg then (none) else (if (σ 42 ((σ 38 8).toNatClampNeg)) < 20 then (zbI (zM d mX8_refuse [.inr (.inr 38)] σ) (fun r1 s1 => if r1 = 0 ∨ r1 = 1 then (some (1, r1, s1)) else (none))) else (if (σ 38 8) < 0 ∨ 402 ≤ (σ 38 8).toNatClampNeg then (none) else (some (1, 1, wr (wr σ 38 42 ((σ 42 ((σ 38 8).toNatClampNeg)) - 20)) 38 8 ((σ 38 8) + 1)))))) else (zbI (zM d mX8_refuse [.inr (.inr 38)] σ) (fun r2 s2 => if r2 = 0 ∨ r2 = 1 then (some (1, r2, s2)) else (none)))) := ze rfl rfl rfl (zx rfl rfl (y2 rfl (zx rfl rfl (y14 (v := .inr (.inr 40)) rfl (zx rfl rfl (y2 rfl (zx rfl rfl (y14 (v := .inl (σ 38 8)) rfl (zx rfl rfl (y16 (v := σ 40 ((σ 38 8).toNatClampNeg)) rfl rfl (zx rfl rfl (y0 (zx rfl rfl (y35 (zx rfl rfl (y2 rfl (zx rfl rfl (y14 (v := .inr (.inr 42)) rfl (zx rfl rfl (y2 rfl (zx rfl rfl (y14 (v := .inl (σ 38 8)) rfl (zx rfl rfl (y16 (v := σ 42 ((σ 38 8).toNatClampNeg)) rfl rfl (zx rfl rfl (y0 (zx rfl rfl (y36 (zx rfl rfl (y2 rfl (zx rfl rfl (y18 (r := []) rfl rfl rfl rfl rfl (fun r1 s1 => zx rfl rfl y19b))))) (zx rfl rfl (y2 rfl (zx rfl rfl (y2 rfl (zx rfl rfl (y14 (v := .inr (.inr 42)) rfl (zx rfl rfl (y2 rfl (zx rfl rfl (y14 (v := .inl (σ 38 8)) rfl (zx rfl rfl (y16 (v := σ 42 ((σ 38 8).toNatClampNeg)) rfl rfl (zx rfl rfl (y0 (zx rfl rfl (y7 (v := (σ 42 ((σ 38 8).toNatClampNeg)) - 20) rfl (zx rfl rfl (y15 rfl (zx rfl rfl (y2 rfl (zx rfl rfl (y21 rfl (zx rfl rfl (y14 (v := .inl (σ 38 8)) rfl (zx rfl rfl (y0 (zx rfl rfl (y7 (v := (σ 38 8) + 1) rfl (zx rfl rfl (y15 rfl (zx rfl rfl (y0 (zx rfl rfl (y19l (by decide))))))))))))))))))))))))))))))))))))))))))))))))) (zx rfl rfl (y2 rfl (zx rfl rfl (y18 (r := []) rfl rfl rfl rfl rfl (fun r2 s2 => zx rfl rfl y19b)))))))))))))))))))
set_option maxRecDepth 100000 in
theorem qX8_readRegister_38 (d : Nat) (σ : zS) : zM (d + 1) mX8_readRegister [.inr (.inr 38)] σ = zexec zc_X8_readRegister zu_X8_readRegister (zM d) (999999 + 1) 0 [.inr (.inr 38)] σ := zM_eq (zat_X8_readRegister) rfl (Nat.le_of_ble_eq_true rfl)
set_option maxRecDepth 100000 in
theorem qX8_readNumber_38_0 (d n : Nat) (σ : zS) : zexec zc_X8_readNumber zu_X8_readNumber (zM d) (n + 1) 0 [.inr (.inr 38)] σ = if (σ 38 8) < 0 ∨ 402 ≤ (σ 38 8).toNatClampNeg then (none) else (if (σ 40 ((σ 38 8).toNatClampNeg)) = 2 then (if (σ 38 8) < 0 ∨ 402 ≤ (σ 38 8).toNatClampNeg then (none) else (some (1, 1, wr (wr σ 38 43 (σ 42 ((σ 38 8).toNatClampNeg))) 38 8 ((σ 38 8) + 1)))) else (zbI (zM d mX8_refuse [.inr (.inr 38)] σ) (fun r1 s1 => if r1 = 0 ∨ r1 = 1 then (some (1, r1, s1)) else (none)))) := ze rfl rfl rfl (zx rfl rfl (y2 rfl (zx rfl rfl (y14 (v := .inr (.inr 40)) rfl (zx rfl rfl (y2 rfl (zx rfl rfl (y14 (v := .inl (σ 38 8)) rfl (zx rfl rfl (y16 (v := σ 40 ((σ 38 8).toNatClampNeg)) rfl rfl (zx rfl rfl (y0 (zx rfl rfl (y35 (zx rfl rfl (y2 rfl (zx rfl rfl (y2 rfl (zx rfl rfl (y14 (v := .inr (.inr 42)) rfl (zx rfl rfl (y2 rfl (zx rfl rfl (y14 (v := .inl (σ 38 8)) rfl (zx rfl rfl (y16 (v := σ 42 ((σ 38 8).toNatClampNeg)) rfl rfl (zx rfl rfl (y15 rfl (zx rfl rfl (y2 rfl (zx rfl rfl (y21 rfl (zx rfl rfl (y14 (v := .inl (σ 38 8)) rfl (zx rfl rfl (y0 (zx rfl rfl (y7 (v := (σ 38 8) + 1) rfl (zx rfl rfl (y15 rfl (zx rfl rfl (y0 (zx rfl rfl (y19l (by decide))))))))))))))))))))))))))))))) (zx rfl rfl (y2 rfl (zx rfl rfl (y18 (r := []) rfl rfl rfl rfl rfl (fun r1 s1 => zx rfl rfl y19b)))))))))))))))))))
set_option maxRecDepth 100000 in
theorem qX8_readNumber_38 (d : Nat) (σ : zS) : zM (d + 1) mX8_readNumber [.inr (.inr 38)] σ = zexec zc_X8_readNumber zu_X8_readNumber (zM d) (999999 + 1) 0 [.inr (.inr 38)] σ := zM_eq (zat_X8_readNumber) rfl (Nat.le_of_ble_eq_true rfl)
set_option maxRecDepth 100000 in
theorem qX8_append_38_0 (d n : Nat) (σ : zS) (x1 x2 x3 : Int32) : zexec zc_X8_append zu_X8_append (zM d) (n + 1) 0 [.inr (.inr 38), .inl x1, .inl x2, .inl x3] σ = if (σ 38 35) < 0 ∨ 201 ≤ (σ 38 35).toNatClampNeg then (none) else (if (σ 38 35) < 0 ∨ 201 ≤ (σ 38 35).toNatClampNeg then (none) else (if (σ 38 35) < 0 ∨ 201 ≤ (σ 38 35).toNatClampNeg then (none) else (some (0, 0, wr (wr (wr (wr (wr σ 50 ((σ 38 35).toNatClampNeg) x1) 51 ((σ 38 35).toNatClampNeg) x2) 52 ((σ 38 35).toNatClampNeg) x3) 38 35 ((σ 38 35) + 1)) 38 33 ((σ 38 35) + 1))))) := ze rfl rfl rfl (zx rfl rfl (y2 rfl (zx rfl rfl (y14 (v := .inr (.inr 50)) rfl (zx rfl rfl (y2 rfl (zx rfl rfl (y14 (v := .inl (σ 38 35)) rfl (zx rfl rfl (y1 rfl (zx rfl rfl (y17 rfl (zx rfl rfl (y2 rfl (zx rfl rfl (y14 (v := .inr (.inr 51)) rfl (zx rfl rfl (y2 rfl (zx rfl rfl (y14 (v := .inl (σ 38 35)) rfl (zx rfl rfl (y1 rfl (zx rfl rfl (y17 rfl (zx rfl rfl (y2 rfl (zx rfl rfl (y14 (v := .inr (.inr 52)) rfl (zx rfl rfl (y2 rfl (zx rfl rfl (y14 (v := .inl (σ 38 35)) rfl (zx rfl rfl (y1 rfl (zx rfl rfl (y17 rfl (zx rfl rfl (y2 rfl (zx rfl rfl (y21 rfl (zx rfl rfl (y14 (v := .inl (σ 38 35)) rfl (zx rfl rfl (y0 (zx rfl rfl (y7 (v := (σ 38 35) + 1) rfl (zx rfl rfl (y15 rfl (zx rfl rfl (y2 rfl (zx rfl rfl (y2 rfl (zx rfl rfl (y14 (v := .inl ((σ 38 35) + 1)) rfl (zx rfl rfl (y15 rfl (zx rfl rfl y20)))))))))))))))))))))))))))))))))))))))))))))))))))))))))
set_option maxRecDepth 100000 in
theorem qX8_append_38 (d : Nat) (σ : zS) (x1 x2 x3 : Int32) : zM (d + 1) mX8_append [.inr (.inr 38), .inl x1, .inl x2, .inl x3] σ = zexec zc_X8_append zu_X8_append (zM d) (999999 + 1) 0 [.inr (.inr 38), .inl x1, .inl x2, .inl x3] σ := zM_eq (zat_X8_append) rfl (Nat.le_of_ble_eq_true rfl)
set_option maxRecDepth 100000 in
theorem qX8_turn_38_0 (d n : Nat) (σ : zS) (x1 : Int32) : zexec zc_X8_turn zu_X8_turn (zM d) (n + 1) 0 [.inr (.inr 38), .inl x1] σ = if (σ 38 31) = 0 then (zbI (zM d mX8_step [.inr (.inr 38)] σ) (fun r1 s1 => if r1 = 0 then (some (0, 0, s1)) else (if x1 < 0 ∨ 1600 ≤ x1.toNatClampNeg then (none) else (zbI (zM d mX8_work [.inr (.inr 38), .inl (s1 46 x1.toNatClampNeg)] s1) (fun r2 s2 => if r2 = 0 then (some (0, 0, s2)) else (if x1 < 0 ∨ 1600 ≤ x1.toNatClampNeg then (none) else (zbV (zM d mX8_list [.inr (.inr 38), .inl (s2 47 x1.toNatClampNeg)] s2) (fun s3 => zexec zc_X8_turn zu_X8_turn (zM d) n 0 [.inr (.inr 38), .inl x1] s3)))))))) else (some (0, 0, σ)) := ze rfl rfl rfl (zx rfl rfl (y2 rfl (zx rfl rfl (y14 (v := .inl (σ 38 31)) rfl (zx rfl rfl (y32 (zx rfl rfl (y2 rfl (zx rfl rfl (y18 (r := []) rfl rfl rfl rfl rfl (fun r1 s1 => zx rfl rfl (y32 (zx rfl rfl y20) (zx rfl rfl (y2 rfl (zx rfl rfl (y2 rfl (zx rfl rfl (y14 (v := .inr (.inr 46)) rfl (zx rfl rfl (y1 rfl (zx rfl rfl (y16 (v := s1 46 x1.toNatClampNeg) rfl rfl (zx rfl rfl (y18 (r := []) rfl rfl rfl rfl rfl (fun r2 s2 => zx rfl rfl (y32 (zx rfl rfl y20) (zx rfl rfl (y2 rfl (zx rfl rfl (y2 rfl (zx rfl rfl (y14 (v := .inr (.inr 47)) rfl (zx rfl rfl (y1 rfl (zx rfl rfl (y16 (v := s2 47 x1.toNatClampNeg) rfl rfl (zx rfl rfl (y30 (r := []) rfl rfl rfl rfl rfl (fun s3 => zx rfl rfl (y12 (zxc rfl rfl rfl rfl))))))))))))))))))))))))))))))))))) (zx rfl rfl y20)))))))
set_option maxRecDepth 100000 in
theorem qX8_turn_38 (d : Nat) (σ : zS) (x1 : Int32) : zM (d + 1) mX8_turn [.inr (.inr 38), .inl x1] σ = zexec zc_X8_turn zu_X8_turn (zM d) (999999 + 1) 0 [.inr (.inr 38), .inl x1] σ := zM_eq (zat_X8_turn) rfl (Nat.le_of_ble_eq_true rfl)
set_option maxRecDepth 100000 in
theorem qX8_step_38_0 (d n : Nat) (σ : zS) : zexec zc_X8_step zu_X8_step (zM d) (n + 1) 0 [.inr (.inr 38)] σ = if 1000 < ((σ 38 36) + 1) then (some (1, 0, wr (wr σ 38 36 ((σ 38 36) + 1)) 38 31 3)) else (if (σ 38 31) = 0 then (some (1, 1, wr σ 38 36 ((σ 38 36) + 1))) else (some (1, 0, wr σ 38 36 ((σ 38 36) + 1)))) := ze rfl rfl rfl (zx rfl rfl (y2 rfl (zx rfl rfl (y21 rfl (zx rfl rfl (y14 (v := .inl (σ 38 36)) rfl (zx rfl rfl (y0 (zx rfl rfl (y7 (v := (σ 38 36) + 1) rfl (zx rfl rfl (y15 rfl (zx rfl rfl (y2 rfl (zx rfl rfl (y14 (v := .inl ((σ 38 36) + 1)) rfl (zx rfl rfl (y0 (zx rfl rfl (y37 (zx rfl rfl (y2 rfl (zx rfl rfl (y0 (zx rfl rfl (y15 rfl (zx rfl rfl (y2 rfl (zx rfl rfl (y14 (v := .inl 3) rfl (zx rfl rfl ((y32 rfl rfl).trans (yel (by decide) (zx rfl rfl (y0 (zx rfl rfl (y19l (by decide)))))))))))))))))) (zx rfl rfl (y2 rfl (zx rfl rfl (y14 (v := .inl (σ 38 31)) rfl (zx rfl rfl (y32 (zx rfl rfl (y0 (zx rfl rfl (y12 (zx rfl rfl (y19l (by decide))))))) (zx rfl rfl (y0 (zx rfl rfl (y19l (by decide)))))))))))))))))))))))))))))))
set_option maxRecDepth 100000 in
theorem qX8_step_38 (d : Nat) (σ : zS) : zM (d + 1) mX8_step [.inr (.inr 38)] σ = zexec zc_X8_step zu_X8_step (zM d) (999999 + 1) 0 [.inr (.inr 38)] σ := zM_eq (zat_X8_step) rfl (Nat.le_of_ble_eq_true rfl)
set_option maxRecDepth 100000 in
theorem qX8_statement_38_0 (d n : Nat) (σ : zS) (x1 : Int32) : zexec zc_X8_statement zu_X8_statement (zM d) (n + 1) 0 [.inr (.inr 38), .inl x1] σ = if x1 < 0 ∨ 1600 ≤ x1.toNatClampNeg then (none) else (if (σ 45 x1.toNatClampNeg) = 1 then (zexec zc_X8_statement zu_X8_statement (zM d) n 134 [.inr (.inr 38), .inl x1] σ) else (if (σ 45 x1.toNatClampNeg) = 2 then (zexec zc_X8_statement zu_X8_statement (zM d) n 134 [.inr (.inr 38), .inl x1] σ) else (if (σ 45 x1.toNatClampNeg) = 3 then (zexec zc_X8_statement zu_X8_statement (zM d) n 250 [.inr (.inr 38), .inl x1] σ) else (if (σ 45 x1.toNatClampNeg) = 4 then (zexec zc_X8_statement zu_X8_statement (zM d) n 194 [.inr (.inr 38), .inl x1] σ) else (if (σ 45 x1.toNatClampNeg) = 5 then (zexec zc_X8_statement zu_X8_statement (zM d) n 250 [.inr (.inr 38), .inl x1] σ) else (if (σ 45 x1.toNatClampNeg) = 6 then (zexec zc_X8_statement zu_X8_statement (zM d) n 229 [.inr (.inr 38), .inl x1] σ) else (if (σ 45 x1.toNatClampNeg) = 7 then (zexec zc_X8_statement zu_X8_statement (zM d) n 188 [.inr (.inr 38), .inl x1] σ) else (if (σ 45 x1.toNatClampNeg) = 8 then (zexec zc_X8_statement zu_X8_statement (zM d) n 119 [.inr (.inr 38), .inl x1] σ) else (if (σ 45 x1.toNatClampNeg) = 9 then (zexec zc_X8_statement zu_X8_statement (zM d) n 250 [.inr (.inr 38), .inl x1] σ) else (if (σ 45 x1.toNatClampNeg) = 10 then (zexec zc_X8_statement zu_X8_statement (zM d) n 64 [.inr (.inr 38), .inl x1] σ) else (if (σ 45 x1.toNatClampNeg) = 11 then (zexec zc_X8_statement zu_X8_statement (zM d) n 86 [.inr (.inr 38), .inl x1] σ) else (zexec zc_X8_statement zu_X8_statement (zM d) n 250 [.inr (.inr 38), .inl x1] σ)))))))))))) := ze rfl rfl rfl (zx rfl rfl (y2 rfl (zx rfl rfl (y14 (v := .inr (.inr 45)) rfl (zx rfl rfl (y1 rfl (zx rfl rfl (y16 (v := σ 45 x1.toNatClampNeg) rfl rfl (zx rfl rfl (y13 (ysw (zxc rfl rfl rfl rfl) (ysw (zxc rfl rfl rfl rfl) (ysw (zxc rfl rfl rfl rfl) (ysw (zxc rfl rfl rfl rfl) (ysw (zxc rfl rfl rfl rfl) (ysw (zxc rfl rfl rfl rfl) (ysw (zxc rfl rfl rfl rfl) (ysw (zxc rfl rfl rfl rfl) (ysw (zxc rfl rfl rfl rfl) (ysw (zxc rfl rfl rfl rfl) (ysw (zxc rfl rfl rfl rfl) (yswd (zxc rfl rfl rfl rfl)))))))))))))))))))))))
set_option maxRecDepth 100000 in
theorem qX8_statement_38 (d : Nat) (σ : zS) (x1 : Int32) : zM (d + 1) mX8_statement [.inr (.inr 38), .inl x1] σ = zexec zc_X8_statement zu_X8_statement (zM d) (999999 + 1) 0 [.inr (.inr 38), .inl x1] σ := zM_eq (zat_X8_statement) rfl (Nat.le_of_ble_eq_true rfl)
set_option maxRecDepth 100000 in
theorem qX8_statement_38_64 (d n : Nat) (σ : zS) (x1 : Int32) : zexec zc_X8_statement zu_X8_statement (zM d) (n + 1) 64 [.inr (.inr 38), .inl x1] σ = if x1 < 0 ∨ 1600 ≤ x1.toNatClampNeg then (none) else (if x1 < 0 ∨ 1600 ≤ x1.toNatClampNeg then (none) else (zbI (zM d mX8_work [.inr (.inr 38), .inl (σ 48 x1.toNatClampNeg)] σ) (fun r1 s1 => if (σ 46 x1.toNatClampNeg) < 0 ∨ 8 ≤ (σ 46 x1.toNatClampNeg).toNatClampNeg then (none) else (some (0, 0, wr s1 54 ((σ 46 x1.toNatClampNeg).toNatClampNeg) r1))))) := ze rfl rfl rfl (zx rfl rfl (y2 rfl (zx rfl rfl (y14 (v := .inr (.inr 54)) rfl (zx rfl rfl (y2 rfl (zx rfl rfl (y14 (v := .inr (.inr 46)) rfl (zx rfl rfl (y1 rfl (zx rfl rfl (y16 (v := σ 46 x1.toNatClampNeg) rfl rfl (zx rfl rfl (y2 rfl (zx rfl rfl (y2 rfl (zx rfl rfl (y14 (v := .inr (.inr 48)) rfl (zx rfl rfl (y1 rfl (zx rfl rfl (y16 (v := σ 48 x1.toNatClampNeg) rfl rfl (zx rfl rfl (y18 (r := [.inl (σ 46 x1.toNatClampNeg), .inr (.inr 54)]) rfl rfl rfl rfl rfl (fun r1 s1 => zx rfl rfl (y17 rfl (zx rfl rfl y20)))))))))))))))))))))))))))
set_option maxRecDepth 100000 in
theorem qX8_statement_38_86 (d n : Nat) (σ : zS) (x1 : Int32) : zexec zc_X8_statement zu_X8_statement (zM d) (n + 1) 86 [.inr (.inr 38), .inl x1] σ = if x1 < 0 ∨ 1600 ≤ x1.toNatClampNeg then (none) else (zbI (zM d mX8_work [.inr (.inr 38), .inl (σ 46 x1.toNatClampNeg)] σ) (fun r1 s1 => if r1 = 0 then (if x1 < 0 ∨ 1600 ≤ x1.toNatClampNeg then (none) else (zbV (zM d mX8_list [.inr (.inr 38), .inl (s1 48 x1.toNatClampNeg)] s1) (fun s2 => some (0, 0, s2)))) else (if x1 < 0 ∨ 1600 ≤ x1.toNatClampNeg then (none) else (zbV (zM d mX8_list [.inr (.inr 38), .inl (s1 47 x1.toNatClampNeg)] s1) (fun s3 => some (0, 0, s3)))))) := ze rfl rfl rfl (zx rfl rfl (y2 rfl (zx rfl rfl (y2 rfl (zx rfl rfl (y2 rfl (zx rfl rfl (y14 (v := .inr (.inr 46)) rfl (zx rfl rfl (y1 rfl (zx rfl rfl (y16 (v := σ 46 x1.toNatClampNeg) rfl rfl (zx rfl rfl (y18 (r := [.inr (.inr 38)]) rfl rfl rfl rfl rfl (fun r1 s1 => zx rfl rfl (y32 (zx rfl rfl (y2 rfl (zx rfl rfl (y14 (v := .inr (.inr 48)) rfl (zx rfl rfl (y1 rfl (zx rfl rfl (y16 (v := s1 48 x1.toNatClampNeg) rfl rfl (zx rfl rfl (y30 (r := []) rfl rfl rfl rfl rfl (fun s2 => zx rfl rfl y20))))))))))) (zx rfl rfl (y2 rfl (zx rfl rfl (y14 (v := .inr (.inr 47)) rfl (zx rfl rfl (y1 rfl (zx rfl rfl (y16 (v := s1 47 x1.toNatClampNeg) rfl rfl (zx rfl rfl (y12 (zx rfl rfl (y30 (r := []) rfl rfl rfl rfl rfl (fun s3 => zx rfl rfl y20)))))))))))))))))))))))))))))
set_option maxRecDepth 100000 in
theorem qX8_statement_38_119 (d n : Nat) (σ : zS) (x1 : Int32) : zexec zc_X8_statement zu_X8_statement (zM d) (n + 1) 119 [.inr (.inr 38), .inl x1] σ = if x1 < 0 ∨ 1600 ≤ x1.toNatClampNeg then (none) else (zbI (zM d mX8_work [.inr (.inr 38), .inl (σ 46 x1.toNatClampNeg)] σ) (fun r1 s1 => zbV (zM d mX8_stop [.inr (.inr 38), .inl r1] s1) (fun s2 => some (0, 0, s2)))) := ze rfl rfl rfl (zx rfl rfl (y2 rfl (zx rfl rfl (y2 rfl (zx rfl rfl (y2 rfl (zx rfl rfl (y14 (v := .inr (.inr 46)) rfl (zx rfl rfl (y1 rfl (zx rfl rfl (y16 (v := σ 46 x1.toNatClampNeg) rfl rfl (zx rfl rfl (y18 (r := [.inr (.inr 38)]) rfl rfl rfl rfl rfl (fun r1 s1 => zx rfl rfl (y30 (r := []) rfl rfl rfl rfl rfl (fun s2 => zx rfl rfl y20)))))))))))))))))
set_option maxRecDepth 100000 in
theorem qX8_statement_38_134 (d n : Nat) (σ : zS) (x1 : Int32) : zexec zc_X8_statement zu_X8_statement (zM d) (n + 1) 134 [.inr (.inr 38), .inl x1] σ = if x1 < 0 ∨ 1600 ≤ x1.toNatClampNeg then (none) else (if (σ 45 x1.toNatClampNeg) = 1 then (if x1 < 0 ∨ 1600 ≤ x1.toNatClampNeg then (none) else (if x1 < 0 ∨ 1600 ≤ x1.toNatClampNeg then (none) else (zbI (zM d mX8_work [.inr (.inr 38), .inl (σ 48 x1.toNatClampNeg)] σ) (fun r1 s1 => zbI (zM d mX8_command [.inr (.inr 38), .inl 1, .inl (σ 47 x1.toNatClampNeg), .inl r1] s1) (fun r2 s2 => if r2 = (-1) then (some (0, 0, s2)) else (if x1 < 0 ∨ 1600 ≤ x1.toNatClampNeg then (none) else (if (s2 46 x1.toNatClampNeg) < 0 ∨ 8 ≤ (s2 46 x1.toNatClampNeg).toNatClampNeg then (none) else (some (0, 0, wr s2 54 ((s2 46 x1.toNatClampNeg).toNatClampNeg) r2))))))))) else (if x1 < 0 ∨ 1600 ≤ x1.toNatClampNeg then (none) else (if x1 < 0 ∨ 1600 ≤ x1.toNatClampNeg then (none) else (zbI (zM d mX8_work [.inr (.inr 38), .inl (σ 48 x1.toNatClampNeg)] σ) (fun r3 s3 => zbI (zM d mX8_command [.inr (.inr 38), .inl 2, .inl (σ 47 x1.toNatClampNeg), .inl r3] s3) (fun r4 s4 => if r4 = (-1) then (some (0, 0, s4)) else (if x1 < 0 ∨ 1600 ≤ x1.toNatClampNeg then (none) else (if (s4 46 x1.toNatClampNeg) < 0 ∨ 8 ≤ (s4 46 x1.toNatClampNeg).toNatClampNeg then (none) else (some (0, 0, wr s4 54 ((s4 46 x1.toNatClampNeg).toNatClampNeg) r4)))))))))) := ze rfl rfl rfl (zx rfl rfl (y2 rfl (zx rfl rfl (y2 rfl (zx rfl rfl (y14 (v := .inr (.inr 45)) rfl (zx rfl rfl (y1 rfl (zx rfl rfl (y16 (v := σ 45 x1.toNatClampNeg) rfl rfl (zx rfl rfl (y0 (zx rfl rfl (y35 (zx rfl rfl (y0 (zx rfl rfl (y12 (zx rfl rfl (y2 rfl (zx rfl rfl (y14 (v := .inr (.inr 47)) rfl (zx rfl rfl (y1 rfl (zx rfl rfl (y16 (v := σ 47 x1.toNatClampNeg) rfl rfl (zx rfl rfl (y2 rfl (zx rfl rfl (y2 rfl (zx rfl rfl (y14 (v := .inr (.inr 48)) rfl (zx rfl rfl (y1 rfl (zx rfl rfl (y16 (v := σ 48 x1.toNatClampNeg) rfl rfl (zx rfl rfl (y18 (r := [.inl (σ 47 x1.toNatClampNeg), .inl 1, .inr (.inr 38)]) rfl rfl rfl rfl rfl (fun r1 s1 => zx rfl rfl (y18 (r := []) rfl rfl rfl rfl rfl (fun r2 s2 => zx rfl rfl (y4 rfl (zx rfl rfl (y1 rfl (zx rfl rfl (y0 (zx rfl rfl (y35 (zx rfl rfl y20) (zx rfl rfl (y2 rfl (zx rfl rfl (y14 (v := .inr (.inr 54)) rfl (zx rfl rfl (y2 rfl (zx rfl rfl (y14 (v := .inr (.inr 46)) rfl (zx rfl rfl (y1 rfl (zx rfl rfl (y16 (v := s2 46 x1.toNatClampNeg) rfl rfl (zx rfl rfl (y1 rfl (zx rfl rfl (y17 rfl (zx rfl rfl y20))))))))))))))))))))))))))))))))))))))))))))))))))) (zx rfl rfl (y0 (zx rfl rfl (y2 rfl (zx rfl rfl (y14 (v := .inr (.inr 47)) rfl (zx rfl rfl (y1 rfl (zx rfl rfl (y16 (v := σ 47 x1.toNatClampNeg) rfl rfl (zx rfl rfl (y2 rfl (zx rfl rfl (y2 rfl (zx rfl rfl (y14 (v := .inr (.inr 48)) rfl (zx rfl rfl (y1 rfl (zx rfl rfl (y16 (v := σ 48 x1.toNatClampNeg) rfl rfl (zx rfl rfl (y18 (r := [.inl (σ 47 x1.toNatClampNeg), .inl 2, .inr (.inr 38)]) rfl rfl rfl rfl rfl (fun r3 s3 => zx rfl rfl (y18 (r := []) rfl rfl rfl rfl rfl (fun r4 s4 => zx rfl rfl (y4 rfl (zx rfl rfl (y1 rfl (zx rfl rfl (y0 (zx rfl rfl (y35 (zx rfl rfl y20) (zx rfl rfl (y2 rfl (zx rfl rfl (y14 (v := .inr (.inr 54)) rfl (zx rfl rfl (y2 rfl (zx rfl rfl (y14 (v := .inr (.inr 46)) rfl (zx rfl rfl (y1 rfl (zx rfl rfl (y16 (v := s4 46 x1.toNatClampNeg) rfl rfl (zx rfl rfl (y1 rfl (zx rfl rfl (y17 rfl (zx rfl rfl y20)))))))))))))))))))))))))))))))))))))))))))))))))))))))))))))))
set_option maxRecDepth 100000 in
theorem qX8_statement_38_188 (d n : Nat) (σ : zS) (x1 : Int32) : zexec zc_X8_statement zu_X8_statement (zM d) (n + 1) 188 [.inr (.inr 38), .inl x1] σ = zbV (zM d mX8_patch [.inr (.inr 38), .inl x1] σ) (fun s1 => some (0, 0, s1)) := ze rfl rfl rfl (zx rfl rfl (y2 rfl (zx rfl rfl (y1 rfl (zx rfl rfl (y30 (r := []) rfl rfl rfl rfl rfl (fun s1 => zx rfl rfl y20)))))))
end
section
-- equations: what each method of the image does, from cut to cut (printed by wip/eqs.py)
set_option maxRecDepth 100000 in
theorem qX8_statement_38_194 (d n : Nat) (σ : zS) (x1 : Int32) : zexec zc_X8_statement zu_X8_statement (zM d) (n + 1) 194 [.inr (.inr 38), .inl x1] σ = if x1 < 0 ∨ 1600 ≤ x1.toNatClampNeg then (none) else (if x1 < 0 ∨ 1600 ≤ x1.toNatClampNeg then (none) else (if (σ 47 x1.toNatClampNeg) < 0 ∨ 8 ≤ (σ 47 x1.toNatClampNeg).toNatClampNeg then (none) else (zbI (zM d mX8_isDone [.inr (.inr 38), .inl (σ 54 ((σ 47 x1.toNatClampNeg).toNatClampNeg))] σ) (fun r1 s1 => if r1 = 0 then (if (σ 46 x1.toNatClampNeg) < 0 ∨ 8 ≤ (σ 46 x1.toNatClampNeg).toNatClampNeg then (none) else (some (0, 0, wr s1 54 ((σ 46 x1.toNatClampNeg).toNatClampNeg) 0))) else (if (σ 46 x1.toNatClampNeg) < 0 ∨ 8 ≤ (σ 46 x1.toNatClampNeg).toNatClampNeg then (none) else (some (0, 0, wr s1 54 ((σ 46 x1.toNatClampNeg).toNatClampNeg) 1))))))) := ze rfl rfl rfl (zx rfl rfl (y2 rfl (zx rfl rfl (y14 (v := .inr (.inr 54)) rfl (zx rfl rfl (y2 rfl (zx rfl rfl (y14 (v := .inr (.inr 46)) rfl (zx rfl rfl (y1 rfl (zx rfl rfl (y16 (v := σ 46 x1.toNatClampNeg) rfl rfl (zx rfl rfl (y2 rfl (zx rfl rfl (y2 rfl (zx rfl rfl (y14 (v := .inr (.inr 54)) rfl (zx rfl rfl (y2 rfl (zx rfl rfl (y14 (v := .inr (.inr 47)) rfl (zx rfl rfl (y1 rfl (zx rfl rfl (y16 (v := σ 47 x1.toNatClampNeg) rfl rfl (zx rfl rfl (y16 (v := σ 54 ((σ 47 x1.toNatClampNeg).toNatClampNeg)) rfl rfl (zx rfl rfl (y18 (r := [.inl (σ 46 x1.toNatClampNeg), .inr (.inr 54)]) rfl rfl rfl rfl rfl (fun r1 s1 => zx rfl rfl (y32 (zx rfl rfl (y0 (zx rfl rfl (y17 rfl (zx rfl rfl y20))))) (zx rfl rfl (y0 (zx rfl rfl (y12 (zx rfl rfl (y17 rfl (zx rfl rfl y20)))))))))))))))))))))))))))))))))))))))
set_option maxRecDepth 100000 in
theorem qX8_statement_38_229 (d n : Nat) (σ : zS) (x1 : Int32) : zexec zc_X8_statement zu_X8_statement (zM d) (n + 1) 229 [.inr (.inr 38), .inl x1] σ = if x1 < 0 ∨ 1600 ≤ x1.toNatClampNeg then (none) else (if (σ 38 32) < 0 ∨ 201 ≤ (σ 38 32).toNatClampNeg then (none) else (if (σ 46 x1.toNatClampNeg) < 0 ∨ 8 ≤ (σ 46 x1.toNatClampNeg).toNatClampNeg then (none) else (some (0, 0, wr σ 54 ((σ 46 x1.toNatClampNeg).toNatClampNeg) (σ 52 ((σ 38 32).toNatClampNeg)))))) := ze rfl rfl rfl (zx rfl rfl (y2 rfl (zx rfl rfl (y14 (v := .inr (.inr 54)) rfl (zx rfl rfl (y2 rfl (zx rfl rfl (y14 (v := .inr (.inr 46)) rfl (zx rfl rfl (y1 rfl (zx rfl rfl (y16 (v := σ 46 x1.toNatClampNeg) rfl rfl (zx rfl rfl (y2 rfl (zx rfl rfl (y14 (v := .inr (.inr 52)) rfl (zx rfl rfl (y2 rfl (zx rfl rfl (y14 (v := .inl (σ 38 32)) rfl (zx rfl rfl (y16 (v := σ 52 ((σ 38 32).toNatClampNeg)) rfl rfl (zx rfl rfl (y17 rfl (zx rfl rfl y20)))))))))))))))))))))))))
set_option maxRecDepth 100000 in
theorem qX8_statement_38_250 (d n : Nat) (σ : zS) (x1 : Int32) : zexec zc_X8_statement zu_X8_statement (zM d) (n + 1) 250 [.inr (.inr 38), .inl x1] σ = zbV (zM d mX8_waits [.inr (.inr 38), .inl x1] σ) (fun s1 => some (0, 0, s1)) := ze rfl rfl rfl (zx rfl rfl (y2 rfl (zx rfl rfl (y1 rfl (zx rfl rfl (y30 (r := []) rfl rfl rfl rfl rfl (fun s1 => zx rfl rfl y20)))))))
set_option maxRecDepth 100000 in
theorem qX8_command_38_0 (d n : Nat) (σ : zS) (x1 x2 x3 : Int32) : zexec zc_X8_command zu_X8_command (zM d) (n + 1) 0 [.inr (.inr 38), .inl x1, .inl x2, .inl x3] σ = if (σ 38 34) = 0 then (zbI (zM d mX8_isCommand [.inr (.inr 38), .inl (σ 38 33)] σ) (fun r1 s1 => if r1 = 0 then (some (1, (-1), wr (wr s1 38 31 2) 38 40 (s1 38 33))) else (if (s1 38 33) < 0 ∨ 201 ≤ (s1 38 33).toNatClampNeg then (none) else (if (s1 50 ((s1 38 33).toNatClampNeg)) = x1 then (if (s1 38 33) < 0 ∨ 201 ≤ (s1 38 33).toNatClampNeg then (none) else (if (s1 51 ((s1 38 33).toNatClampNeg)) = x2 then (if (s1 38 33) < 0 ∨ 201 ≤ (s1 38 33).toNatClampNeg then (none) else (if (s1 52 ((s1 38 33).toNatClampNeg)) = x3 then (some (1, ((s1 38 33) + 1) - 1, wr s1 38 33 ((s1 38 33) + 1))) else (some (1, (-1), wr (wr s1 38 31 2) 38 40 (s1 38 33))))) else (some (1, (-1), wr (wr s1 38 31 2) 38 40 (s1 38 33))))) else (some (1, (-1), wr (wr s1 38 31 2) 38 40 (s1 38 33))))))) else (if (σ 38 35) = 200 then (some (1, (-1), wr σ 38 31 5)) else (zbV (zM d mX8_append [.inr (.inr 38), .inl x1, .inl x2, .inl x3] σ) (fun s2 => some (1, (s2 38 35) - 1, s2)))) := ze rfl rfl rfl (zx rfl rfl (y2 rfl (zx rfl rfl (y14 (v := .inl (σ 38 34)) rfl (zx rfl rfl (y32 (zx rfl rfl (y2 rfl (zx rfl rfl (y2 rfl (zx rfl rfl (y14 (v := .inl (σ 38 33)) rfl (zx rfl rfl (y18 (r := []) rfl rfl rfl rfl rfl (fun r1 s1 => zx rfl rfl (y32 (zx rfl rfl (y2 rfl (zx rfl rfl (y0 (zx rfl rfl (y15 rfl (zx rfl rfl (y2 rfl (zx rfl rfl (y2 rfl (zx rfl rfl (y14 (v := .inl (s1 38 33)) rfl (zx rfl rfl (y15 rfl (zx rfl rfl (y0 (zx rfl rfl y19))))))))))))))))) (zx rfl rfl (y2 rfl (zx rfl rfl (y14 (v := .inr (.inr 50)) rfl (zx rfl rfl (y2 rfl (zx rfl rfl (y14 (v := .inl (s1 38 33)) rfl (zx rfl rfl (y16 (v := s1 50 ((s1 38 33).toNatClampNeg)) rfl rfl (zx rfl rfl (y1 rfl (zx rfl rfl (y35 (zx rfl rfl (y2 rfl (zx rfl rfl (y14 (v := .inr (.inr 51)) rfl (zx rfl rfl (y2 rfl (zx rfl rfl (y14 (v := .inl (s1 38 33)) rfl (zx rfl rfl (y16 (v := s1 51 ((s1 38 33).toNatClampNeg)) rfl rfl (zx rfl rfl (y1 rfl (zx rfl rfl (y35 (zx rfl rfl (y2 rfl (zx rfl rfl (y14 (v := .inr (.inr 52)) rfl (zx rfl rfl (y2 rfl (zx rfl rfl (y14 (v := .inl (s1 38 33)) rfl (zx rfl rfl (y16 (v := s1 52 ((s1 38 33).toNatClampNeg)) rfl rfl (zx rfl rfl (y1 rfl (zx rfl rfl (y35 (zx rfl rfl (y2 rfl (zx rfl rfl (y21 rfl (zx rfl rfl (y14 (v := .inl (s1 38 33)) rfl (zx rfl rfl (y0 (zx rfl rfl (y7 (v := (s1 38 33) + 1) rfl (zx rfl rfl (y15 rfl (zx rfl rfl (y2 rfl (zx rfl rfl (y14 (v := .inl ((s1 38 33) + 1)) rfl (zx rfl rfl (y0 (zx rfl rfl (y7 (v := ((s1 38 33) + 1) - 1) rfl (zx rfl rfl y19))))))))))))))))))))) (zx rfl rfl (y2 rfl (zx rfl rfl (y0 (zx rfl rfl (y15 rfl (zx rfl rfl (y2 rfl (zx rfl rfl (y2 rfl (zx rfl rfl (y14 (v := .inl (s1 38 33)) rfl (zx rfl rfl (y15 rfl (zx rfl rfl (y0 (zx rfl rfl y19))))))))))))))))))))))))))))))) (zx rfl rfl (y2 rfl (zx rfl rfl (y0 (zx rfl rfl (y15 rfl (zx rfl rfl (y2 rfl (zx rfl rfl (y2 rfl (zx rfl rfl (y14 (v := .inl (s1 38 33)) rfl (zx rfl rfl (y15 rfl (zx rfl rfl (y0 (zx rfl rfl y19))))))))))))))))))))))))))))))) (zx rfl rfl (y2 rfl (zx rfl rfl (y0 (zx rfl rfl (y15 rfl (zx rfl rfl (y2 rfl (zx rfl rfl (y2 rfl (zx rfl rfl (y14 (v := .inl (s1 38 33)) rfl (zx rfl rfl (y15 rfl (zx rfl rfl (y0 (zx rfl rfl y19))))))))))))))))))))))))))))))))))))))))) (zx rfl rfl (y2 rfl (zx rfl rfl (y14 (v := .inl (σ 38 35)) rfl (zx rfl rfl (y0 (zx rfl rfl (y35 (zx rfl rfl (y2 rfl (zx rfl rfl (y0 (zx rfl rfl (y15 rfl (zx rfl rfl (y0 (zx rfl rfl y19))))))))) (zx rfl rfl (y2 rfl (zx rfl rfl (y1 rfl (zx rfl rfl (y1 rfl (zx rfl rfl (y1 rfl (zx rfl rfl (y30 (r := []) rfl rfl rfl rfl rfl (fun s2 => zx rfl rfl (y2 rfl (zx rfl rfl (y14 (v := .inl (s2 38 35)) rfl (zx rfl rfl (y0 (zx rfl rfl (y7 (v := (s2 38 35) - 1) rfl (zx rfl rfl y19)))))))))))))))))))))))))))))))))
set_option maxRecDepth 100000 in
theorem qX8_command_38 (d : Nat) (σ : zS) (x1 x2 x3 : Int32) : zM (d + 1) mX8_command [.inr (.inr 38), .inl x1, .inl x2, .inl x3] σ = zexec zc_X8_command zu_X8_command (zM d) (999999 + 1) 0 [.inr (.inr 38), .inl x1, .inl x2, .inl x3] σ := zM_eq (zat_X8_command) rfl (Nat.le_of_ble_eq_true rfl)
set_option maxRecDepth 100000 in
theorem qX8_goOn_38_0 (d n : Nat) (σ : zS) : zexec zc_X8_goOn zu_X8_goOn (zM d) (n + 1) 0 [.inr (.inr 38)] σ = if (σ 38 34) = 0 then (zbI (zM d mX8_isCommand [.inr (.inr 38), .inl (σ 38 33)] σ) (fun r1 s1 => if r1 = 0 then (zexec zc_X8_goOn zu_X8_goOn (zM d) n 39 [.inr (.inr 38)] s1) else (some (0, 0, wr (wr s1 38 31 2) 38 40 (s1 38 33))))) else (some (0, 0, wr σ 38 31 9)) := ze rfl rfl rfl (zx rfl rfl (y2 rfl (zx rfl rfl (y14 (v := .inl (σ 38 34)) rfl (zx rfl rfl (y32 (zx rfl rfl (y2 rfl (zx rfl rfl (y2 rfl (zx rfl rfl (y14 (v := .inl (σ 38 33)) rfl (zx rfl rfl (y18 (r := []) rfl rfl rfl rfl rfl (fun r1 s1 => zx rfl rfl (y32 (zxc rfl rfl rfl rfl) (zx rfl rfl (y2 rfl (zx rfl rfl (y0 (zx rfl rfl (y15 rfl (zx rfl rfl (y2 rfl (zx rfl rfl (y2 rfl (zx rfl rfl (y14 (v := .inl (s1 38 33)) rfl (zx rfl rfl (y15 rfl (zx rfl rfl y20))))))))))))))))))))))))) (zx rfl rfl (y2 rfl (zx rfl rfl (y0 (zx rfl rfl (y15 rfl (zx rfl rfl y20)))))))))))))
set_option maxRecDepth 100000 in
theorem qX8_goOn_38 (d : Nat) (σ : zS) : zM (d + 1) mX8_goOn [.inr (.inr 38)] σ = zexec zc_X8_goOn zu_X8_goOn (zM d) (999999 + 1) 0 [.inr (.inr 38)] σ := zM_eq (zat_X8_goOn) rfl (Nat.le_of_ble_eq_true rfl)
set_option maxRecDepth 100000 in
theorem qX8_goOn_38_39 (d n : Nat) (σ : zS) : zexec zc_X8_goOn zu_X8_goOn (zM d) (n + 1) 39 [.inr (.inr 38)] σ = if (σ 38 33) < (σ 38 20) then (if (σ 38 33) < 0 ∨ 201 ≤ (σ 38 33).toNatClampNeg then (none) else (if (σ 50 ((σ 38 33).toNatClampNeg)) = 0 then (if (σ 38 33) = (σ 38 20) then (if (σ 38 38) = 0 then (zbV (zM d mX8_begins [.inr (.inr 38)] (wr σ 38 36 0)) (fun s1 => some (0, 0, s1))) else (some (0, 0, wr (wr σ 38 36 0) 38 31 4))) else (some (0, 0, wr (wr (wr σ 38 36 0) 38 32 (σ 38 33)) 38 33 ((σ 38 33) + 1)))) else (zexec zc_X8_goOn zu_X8_goOn (zM d) n 39 [.inr (.inr 38)] (wr σ 38 33 ((σ 38 33) + 1))))) else (if (σ 38 33) = (σ 38 20) then (if (σ 38 38) = 0 then (zbV (zM d mX8_begins [.inr (.inr 38)] (wr σ 38 36 0)) (fun s2 => some (0, 0, s2))) else (some (0, 0, wr (wr σ 38 36 0) 38 31 4))) else (some (0, 0, wr (wr (wr σ 38 36 0) 38 32 (σ 38 33)) 38 33 ((σ 38 33) + 1)))) := ze rfl rfl rfl (zx rfl rfl (y2 rfl (zx rfl rfl (y14 (v := .inl (σ 38 33)) rfl (zx rfl rfl (y2 rfl (zx rfl rfl (y14 (v := .inl (σ 38 20)) rfl (zx rfl rfl (y36 (zx rfl rfl (y2 rfl (zx rfl rfl (y14 (v := .inr (.inr 50)) rfl (zx rfl rfl (y2 rfl (zx rfl rfl (y14 (v := .inl (σ 38 33)) rfl (zx rfl rfl (y16 (v := σ 50 ((σ 38 33).toNatClampNeg)) rfl rfl (zx rfl rfl (y32 (zx rfl rfl (y2 rfl (zx rfl rfl (y0 (zx rfl rfl (y15 rfl (zx rfl rfl (y2 rfl (zx rfl rfl (y14 (v := .inl (σ 38 33)) rfl (zx rfl rfl (y2 rfl (zx rfl rfl (y14 (v := .inl (σ 38 20)) rfl (zx rfl rfl (y35 (zx rfl rfl (y2 rfl (zx rfl rfl (y14 (v := .inl (σ 38 38)) rfl (zx rfl rfl (y32 (zx rfl rfl (y2 rfl (zx rfl rfl (y30 (r := []) rfl rfl rfl rfl rfl (fun s1 => zx rfl rfl y20))))) (zx rfl rfl (y2 rfl (zx rfl rfl (y0 (zx rfl rfl (y15 rfl (zx rfl rfl (y12 (zx rfl rfl y20))))))))))))))) (zx rfl rfl (y2 rfl (zx rfl rfl (y2 rfl (zx rfl rfl (y14 (v := .inl (σ 38 33)) rfl (zx rfl rfl (y15 rfl (zx rfl rfl (y2 rfl (zx rfl rfl (y21 rfl (zx rfl rfl (y14 (v := .inl (σ 38 33)) rfl (zx rfl rfl (y0 (zx rfl rfl (y7 (v := (σ 38 33) + 1) rfl (zx rfl rfl (y15 rfl (zx rfl rfl y20))))))))))))))))))))))))))))))))))))) (zx rfl rfl (y2 rfl (zx rfl rfl (y21 rfl (zx rfl rfl (y14 (v := .inl (σ 38 33)) rfl (zx rfl rfl (y0 (zx rfl rfl (y7 (v := (σ 38 33) + 1) rfl (zx rfl rfl (y15 rfl (zx rfl rfl (y12 (zxc rfl rfl rfl rfl))))))))))))))))))))))))))) (zx rfl rfl (y2 rfl (zx rfl rfl (y0 (zx rfl rfl (y15 rfl (zx rfl rfl (y2 rfl (zx rfl rfl (y14 (v := .inl (σ 38 33)) rfl (zx rfl rfl (y2 rfl (zx rfl rfl (y14 (v := .inl (σ 38 20)) rfl (zx rfl rfl (y35 (zx rfl rfl (y2 rfl (zx rfl rfl (y14 (v := .inl (σ 38 38)) rfl (zx rfl rfl (y32 (zx rfl rfl (y2 rfl (zx rfl rfl (y30 (r := []) rfl rfl rfl rfl rfl (fun s2 => zx rfl rfl y20))))) (zx rfl rfl (y2 rfl (zx rfl rfl (y0 (zx rfl rfl (y15 rfl (zx rfl rfl (y12 (zx rfl rfl y20))))))))))))))) (zx rfl rfl (y2 rfl (zx rfl rfl (y2 rfl (zx rfl rfl (y14 (v := .inl (σ 38 33)) rfl (zx rfl rfl (y15 rfl (zx rfl rfl (y2 rfl (zx rfl rfl (y21 rfl (zx rfl rfl (y14 (v := .inl (σ 38 33)) rfl (zx rfl rfl (y0 (zx rfl rfl (y7 (v := (σ 38 33) + 1) rfl (zx rfl rfl (y15 rfl (zx rfl rfl y20)))))))))))))))))))))))))))))))))))))))))))))))
set_option maxRecDepth 100000 in
theorem qX8_readSum_38_0 (d n : Nat) (σ : zS) : zexec zc_X8_readSum zu_X8_readSum (zM d) (n + 1) 0 [.inr (.inr 38)] σ = zbI (zM d mX8_readTerm [.inr (.inr 38)] σ) (fun r1 s1 => if r1 = 0 then (some (1, 0, s1)) else (zexec zc_X8_readSum zu_X8_readSum (zM d) n 9 [.inr (.inr 38)] s1)) := ze rfl rfl rfl (zx rfl rfl (y2 rfl (zx rfl rfl (y18 (r := []) rfl rfl rfl rfl rfl (fun r1 s1 => zx rfl rfl (y32 (zx rfl rfl (y0 (zx rfl rfl (y19l (by decide))))) (zxc rfl rfl rfl rfl)))))))
set_option maxRecDepth 100000 in
theorem qX8_readSum_38 (d : Nat) (σ : zS) : zM (d + 1) mX8_readSum [.inr (.inr 38)] σ = zexec zc_X8_readSum zu_X8_readSum (zM d) (999999 + 1) 0 [.inr (.inr 38)] σ := zM_eq (zat_X8_readSum) rfl (Nat.le_of_ble_eq_true rfl)
set_option maxRecDepth 100000 in
theorem qX8_readSum_38_9 (d n : Nat) (σ : zS) : zexec zc_X8_readSum zu_X8_readSum (zM d) (n + 1) 9 [.inr (.inr 38)] σ = zbI (zM d mX8_is [.inr (.inr 38), .inl 43] σ) (fun r1 s1 => if r1 = 0 then (zbI (zM d mX8_is [.inr (.inr 38), .inl 45] s1) (fun r2 s2 => if r2 = 0 then (some (1, 1, s2)) else (if (s2 38 8) < 0 ∨ 402 ≤ (s2 38 8).toNatClampNeg then (none) else (zbI (zM d mX8_readTerm [.inr (.inr 38)] (wr s2 38 8 ((s2 38 8) + 1))) (fun r3 s3 => if r3 = 0 then (some (1, 0, s3)) else (zbI (zM d mX8_node [.inr (.inr 38), .inl (s2 42 ((s2 38 8).toNatClampNeg)), .inl (s2 38 41), .inl (s3 38 41), .inl 0] s3) (fun r4 s4 => zexec zc_X8_readSum zu_X8_readSum (zM d) n 9 [.inr (.inr 38)] (wr s4 38 41 r4)))))))) else (if (s1 38 8) < 0 ∨ 402 ≤ (s1 38 8).toNatClampNeg then (none) else (zbI (zM d mX8_readTerm [.inr (.inr 38)] (wr s1 38 8 ((s1 38 8) + 1))) (fun r5 s5 => if r5 = 0 then (some (1, 0, s5)) else (zbI (zM d mX8_node [.inr (.inr 38), .inl (s1 42 ((s1 38 8).toNatClampNeg)), .inl (s1 38 41), .inl (s5 38 41), .inl 0] s5) (fun r6 s6 => zexec zc_X8_readSum zu_X8_readSum (zM d) n 9 [.inr (.inr 38)] (wr s6 38 41 r6))))))) := ze rfl rfl rfl (zx rfl rfl (y2 rfl (zx rfl rfl (y0 (zx rfl rfl (y18 (r := []) rfl rfl rfl rfl rfl (fun r1 s1 => zx rfl rfl (y32 (zx rfl rfl (y2 rfl (zx rfl rfl (y0 (zx rfl rfl (y18 (r := []) rfl rfl rfl rfl rfl (fun r2 s2 => zx rfl rfl (y32 (zx rfl rfl (y0 (zx rfl rfl (y19l (by decide))))) (zx rfl rfl (y2 rfl (zx rfl rfl (y14 (v := .inr (.inr 42)) rfl (zx rfl rfl (y2 rfl (zx rfl rfl (y14 (v := .inl (s2 38 8)) rfl (zx rfl rfl (y16 (v := s2 42 ((s2 38 8).toNatClampNeg)) rfl rfl (zx rfl rfl (y4 rfl (zx rfl rfl (y2 rfl (zx rfl rfl (y14 (v := .inl (s2 38 41)) rfl (zx rfl rfl (y4 rfl (zx rfl rfl (y2 rfl (zx rfl rfl (y21 rfl (zx rfl rfl (y14 (v := .inl (s2 38 8)) rfl (zx rfl rfl (y0 (zx rfl rfl (y7 (v := (s2 38 8) + 1) rfl (zx rfl rfl (y15 rfl (zx rfl rfl (y2 rfl (zx rfl rfl (y18 (r := []) rfl rfl rfl rfl rfl (fun r3 s3 => zx rfl rfl (y32 (zx rfl rfl (y0 (zx rfl rfl (y19l (by decide))))) (zx rfl rfl (y2 rfl (zx rfl rfl (y2 rfl (zx rfl rfl (y1 rfl (zx rfl rfl (y1 rfl (zx rfl rfl (y2 rfl (zx rfl rfl (y14 (v := .inl (s3 38 41)) rfl (zx rfl rfl (y0 (zx rfl rfl (y18 (r := [.inr (.inr 38)]) rfl rfl rfl rfl rfl (fun r4 s4 => zx rfl rfl (y15 rfl (zx rfl rfl (y12 (zxc rfl rfl rfl rfl))))))))))))))))))))))))))))))))))))))))))))))))))))))))))))))))) (zx rfl rfl (y2 rfl (zx rfl rfl (y14 (v := .inr (.inr 42)) rfl (zx rfl rfl (y2 rfl (zx rfl rfl (y14 (v := .inl (s1 38 8)) rfl (zx rfl rfl (y16 (v := s1 42 ((s1 38 8).toNatClampNeg)) rfl rfl (zx rfl rfl (y4 rfl (zx rfl rfl (y2 rfl (zx rfl rfl (y14 (v := .inl (s1 38 41)) rfl (zx rfl rfl (y4 rfl (zx rfl rfl (y2 rfl (zx rfl rfl (y21 rfl (zx rfl rfl (y14 (v := .inl (s1 38 8)) rfl (zx rfl rfl (y0 (zx rfl rfl (y7 (v := (s1 38 8) + 1) rfl (zx rfl rfl (y15 rfl (zx rfl rfl (y2 rfl (zx rfl rfl (y18 (r := []) rfl rfl rfl rfl rfl (fun r5 s5 => zx rfl rfl (y32 (zx rfl rfl (y0 (zx rfl rfl (y19l (by decide))))) (zx rfl rfl (y2 rfl (zx rfl rfl (y2 rfl (zx rfl rfl (y1 rfl (zx rfl rfl (y1 rfl (zx rfl rfl (y2 rfl (zx rfl rfl (y14 (v := .inl (s5 38 41)) rfl (zx rfl rfl (y0 (zx rfl rfl (y18 (r := [.inr (.inr 38)]) rfl rfl rfl rfl rfl (fun r6 s6 => zx rfl rfl (y15 rfl (zx rfl rfl (y12 (zxc rfl rfl rfl rfl)))))))))))))))))))))))))))))))))))))))))))))))))))))))))))))))))
set_option maxRecDepth 100000 in
theorem qX8_takes_38_0 (d n : Nat) (σ : zS) (x1 : Int32) : zexec zc_X8_takes zu_X8_takes (zM d) (n + 1) 0 [.inr (.inr 38), .inl x1] σ = zbI (zM d mX8_is [.inr (.inr 38), .inl x1] σ) (fun r1 s1 => if r1 = 0 then (if r1 = 0 ∨ r1 = 1 then (some (1, r1, s1)) else (none)) else (if r1 = 0 ∨ r1 = 1 then (some (1, r1, wr s1 38 8 ((s1 38 8) + 1))) else (none))) := ze rfl rfl rfl (zx rfl rfl (y2 rfl (zx rfl rfl (y1 rfl (zx rfl rfl (y18 (r := []) rfl rfl rfl rfl rfl (fun r1 s1 => zx rfl rfl (y4 rfl (zx rfl rfl (y1 rfl (zx rfl rfl (y32 (zx rfl rfl (y1 rfl (zx rfl rfl y19b))) (zx rfl rfl (y2 rfl (zx rfl rfl (y21 rfl (zx rfl rfl (y14 (v := .inl (s1 38 8)) rfl (zx rfl rfl (y0 (zx rfl rfl (y7 (v := (s1 38 8) + 1) rfl (zx rfl rfl (y15 rfl (zx rfl rfl (y1 rfl (zx rfl rfl y19b)))))))))))))))))))))))))))
set_option maxRecDepth 100000 in
theorem qX8_takes_38 (d : Nat) (σ : zS) (x1 : Int32) : zM (d + 1) mX8_takes [.inr (.inr 38), .inl x1] σ = zexec zc_X8_takes zu_X8_takes (zM d) (999999 + 1) 0 [.inr (.inr 38), .inl x1] σ := zM_eq (zat_X8_takes) rfl (Nat.le_of_ble_eq_true rfl)
set_option maxRecDepth 100000 in
theorem qX8_deeper_38_0 (d n : Nat) (σ : zS) : zexec zc_X8_deeper zu_X8_deeper (zM d) (n + 1) 0 [.inr (.inr 38)] σ = if (σ 38 9) = 10 then (zbI (zM d mX8_refuse [.inr (.inr 38)] σ) (fun r1 s1 => if r1 = 0 ∨ r1 = 1 then (some (1, r1, s1)) else (none))) else (some (1, 1, wr (wr σ 38 9 ((σ 38 9) + 1)) 38 8 ((σ 38 8) + 1))) := ze rfl rfl rfl (zx rfl rfl (y2 rfl (zx rfl rfl (y14 (v := .inl (σ 38 9)) rfl (zx rfl rfl (y0 (zx rfl rfl (y35 (zx rfl rfl (y2 rfl (zx rfl rfl (y18 (r := []) rfl rfl rfl rfl rfl (fun r1 s1 => zx rfl rfl y19b))))) (zx rfl rfl (y2 rfl (zx rfl rfl (y21 rfl (zx rfl rfl (y14 (v := .inl (σ 38 9)) rfl (zx rfl rfl (y0 (zx rfl rfl (y7 (v := (σ 38 9) + 1) rfl (zx rfl rfl (y15 rfl (zx rfl rfl (y2 rfl (zx rfl rfl (y21 rfl (zx rfl rfl (y14 (v := .inl (σ 38 8)) rfl (zx rfl rfl (y0 (zx rfl rfl (y7 (v := (σ 38 8) + 1) rfl (zx rfl rfl (y15 rfl (zx rfl rfl (y0 (zx rfl rfl (y19l (by decide)))))))))))))))))))))))))))))))))))))
set_option maxRecDepth 100000 in
theorem qX8_deeper_38 (d : Nat) (σ : zS) : zM (d + 1) mX8_deeper [.inr (.inr 38)] σ = zexec zc_X8_deeper zu_X8_deeper (zM d) (999999 + 1) 0 [.inr (.inr 38)] σ := zM_eq (zat_X8_deeper) rfl (Nat.le_of_ble_eq_true rfl)
set_option maxRecDepth 100000 in
theorem qX8_work_38_0 (d n : Nat) (σ : zS) (x1 : Int32) : zexec zc_X8_work zu_X8_work (zM d) (n + 1) 0 [.inr (.inr 38), .inl x1] σ = if x1 < 0 ∨ 1600 ≤ x1.toNatClampNeg then (none) else (if (σ 45 x1.toNatClampNeg) = 42 then (zexec zc_X8_work zu_X8_work (zM d) n 139 [.inr (.inr 38), .inl x1] σ) else (if (σ 45 x1.toNatClampNeg) = 43 then (zexec zc_X8_work zu_X8_work (zM d) n 95 [.inr (.inr 38), .inl x1] σ) else (if (σ 45 x1.toNatClampNeg) = 45 then (zexec zc_X8_work zu_X8_work (zM d) n 117 [.inr (.inr 38), .inl x1] σ) else (if (σ 45 x1.toNatClampNeg) = 48 then (zexec zc_X8_work zu_X8_work (zM d) n 64 [.inr (.inr 38), .inl x1] σ) else (if (σ 45 x1.toNatClampNeg) = 110 then (zexec zc_X8_work zu_X8_work (zM d) n 83 [.inr (.inr 38), .inl x1] σ) else (if (σ 45 x1.toNatClampNeg) = 114 then (zexec zc_X8_work zu_X8_work (zM d) n 71 [.inr (.inr 38), .inl x1] σ) else (zexec zc_X8_work zu_X8_work (zM d) n 161 [.inr (.inr 38), .inl x1] σ))))))) := ze rfl rfl rfl (zx rfl rfl (y2 rfl (zx rfl rfl (y14 (v := .inr (.inr 45)) rfl (zx rfl rfl (y1 rfl (zx rfl rfl (y16 (v := σ 45 x1.toNatClampNeg) rfl rfl (zx rfl rfl (y13 (ysw (zxc rfl rfl rfl rfl) (ysw (zxc rfl rfl rfl rfl) (ysw (zxc rfl rfl rfl rfl) (ysw (zxc rfl rfl rfl rfl) (ysw (zxc rfl rfl rfl rfl) (ysw (zxc rfl rfl rfl rfl) (yswd (zxc rfl rfl rfl rfl))))))))))))))))))
set_option maxRecDepth 100000 in
theorem qX8_work_38 (d : Nat) (σ : zS) (x1 : Int32) : zM (d + 1) mX8_work [.inr (.inr 38), .inl x1] σ = zexec zc_X8_work zu_X8_work (zM d) (999999 + 1) 0 [.inr (.inr 38), .inl x1] σ := zM_eq (zat_X8_work) rfl (Nat.le_of_ble_eq_true rfl)
set_option maxRecDepth 100000 in
theorem qX8_work_38_64 (d n : Nat) (σ : zS) (x1 : Int32) : zexec zc_X8_work zu_X8_work (zM d) (n + 1) 64 [.inr (.inr 38), .inl x1] σ = if x1 < 0 ∨ 1600 ≤ x1.toNatClampNeg then (none) else (some (1, σ 46 x1.toNatClampNeg, σ)) := ze rfl rfl rfl (zx rfl rfl (y2 rfl (zx rfl rfl (y14 (v := .inr (.inr 46)) rfl (zx rfl rfl (y1 rfl (zx rfl rfl (y16 (v := σ 46 x1.toNatClampNeg) rfl rfl (zx rfl rfl y19)))))))))
set_option maxRecDepth 100000 in
theorem qX8_work_38_71 (d n : Nat) (σ : zS) (x1 : Int32) : zexec zc_X8_work zu_X8_work (zM d) (n + 1) 71 [.inr (.inr 38), .inl x1] σ = if x1 < 0 ∨ 1600 ≤ x1.toNatClampNeg then (none) else (if (σ 46 x1.toNatClampNeg) < 0 ∨ 8 ≤ (σ 46 x1.toNatClampNeg).toNatClampNeg then (none) else (some (1, σ 54 ((σ 46 x1.toNatClampNeg).toNatClampNeg), σ))) := ze rfl rfl rfl (zx rfl rfl (y2 rfl (zx rfl rfl (y14 (v := .inr (.inr 54)) rfl (zx rfl rfl (y2 rfl (zx rfl rfl (y14 (v := .inr (.inr 46)) rfl (zx rfl rfl (y1 rfl (zx rfl rfl (y16 (v := σ 46 x1.toNatClampNeg) rfl rfl (zx rfl rfl (y16 (v := σ 54 ((σ 46 x1.toNatClampNeg).toNatClampNeg)) rfl rfl (zx rfl rfl y19)))))))))))))))
set_option maxRecDepth 100000 in
theorem qX8_work_38_83 (d n : Nat) (σ : zS) (x1 : Int32) : zexec zc_X8_work zu_X8_work (zM d) (n + 1) 83 [.inr (.inr 38), .inl x1] σ = if x1 < 0 ∨ 1600 ≤ x1.toNatClampNeg then (none) else (zbI (zM d mX8_work [.inr (.inr 38), .inl (σ 46 x1.toNatClampNeg)] σ) (fun r1 s1 => some (1, -r1, s1))) := ze rfl rfl rfl (zx rfl rfl (y2 rfl (zx rfl rfl (y2 rfl (zx rfl rfl (y14 (v := .inr (.inr 46)) rfl (zx rfl rfl (y1 rfl (zx rfl rfl (y16 (v := σ 46 x1.toNatClampNeg) rfl rfl (zx rfl rfl (y18 (r := []) rfl rfl rfl rfl rfl (fun r1 s1 => zx rfl rfl (y8 (v := -r1) rfl (zx rfl rfl y19)))))))))))))))
set_option maxRecDepth 100000 in
theorem qX8_work_38_95 (d n : Nat) (σ : zS) (x1 : Int32) : zexec zc_X8_work zu_X8_work (zM d) (n + 1) 95 [.inr (.inr 38), .inl x1] σ = if x1 < 0 ∨ 1600 ≤ x1.toNatClampNeg then (none) else (zbI (zM d mX8_work [.inr (.inr 38), .inl (σ 46 x1.toNatClampNeg)] σ) (fun r1 s1 => if x1 < 0 ∨ 1600 ≤ x1.toNatClampNeg then (none) else (zbI (zM d mX8_work [.inr (.inr 38), .inl (s1 47 x1.toNatClampNeg)] s1) (fun r2 s2 => some (1, r1 + r2, s2))))) := ze rfl rfl rfl (zx rfl rfl (y2 rfl (zx rfl rfl (y2 rfl (zx rfl rfl (y14 (v := .inr (.inr 46)) rfl (zx rfl rfl (y1 rfl (zx rfl rfl (y16 (v := σ 46 x1.toNatClampNeg) rfl rfl (zx rfl rfl (y18 (r := []) rfl rfl rfl rfl rfl (fun r1 s1 => zx rfl rfl (y2 rfl (zx rfl rfl (y2 rfl (zx rfl rfl (y14 (v := .inr (.inr 47)) rfl (zx rfl rfl (y1 rfl (zx rfl rfl (y16 (v := s1 47 x1.toNatClampNeg) rfl rfl (zx rfl rfl (y18 (r := [.inl r1]) rfl rfl rfl rfl rfl (fun r2 s2 => zx rfl rfl (y7 (v := r1 + r2) rfl (zx rfl rfl y19)))))))))))))))))))))))))))
set_option maxRecDepth 100000 in
theorem qX8_work_38_117 (d n : Nat) (σ : zS) (x1 : Int32) : zexec zc_X8_work zu_X8_work (zM d) (n + 1) 117 [.inr (.inr 38), .inl x1] σ = if x1 < 0 ∨ 1600 ≤ x1.toNatClampNeg then (none) else (zbI (zM d mX8_work [.inr (.inr 38), .inl (σ 46 x1.toNatClampNeg)] σ) (fun r1 s1 => if x1 < 0 ∨ 1600 ≤ x1.toNatClampNeg then (none) else (zbI (zM d mX8_work [.inr (.inr 38), .inl (s1 47 x1.toNatClampNeg)] s1) (fun r2 s2 => some (1, r1 - r2, s2))))) := ze rfl rfl rfl (zx rfl rfl (y2 rfl (zx rfl rfl (y2 rfl (zx rfl rfl (y14 (v := .inr (.inr 46)) rfl (zx rfl rfl (y1 rfl (zx rfl rfl (y16 (v := σ 46 x1.toNatClampNeg) rfl rfl (zx rfl rfl (y18 (r := []) rfl rfl rfl rfl rfl (fun r1 s1 => zx rfl rfl (y2 rfl (zx rfl rfl (y2 rfl (zx rfl rfl (y14 (v := .inr (.inr 47)) rfl (zx rfl rfl (y1 rfl (zx rfl rfl (y16 (v := s1 47 x1.toNatClampNeg) rfl rfl (zx rfl rfl (y18 (r := [.inl r1]) rfl rfl rfl rfl rfl (fun r2 s2 => zx rfl rfl (y7 (v := r1 - r2) rfl (zx rfl rfl y19)))))))))))))))))))))))))))
set_option maxRecDepth 100000 in
theorem qX8_work_38_139 (d n : Nat) (σ : zS) (x1 : Int32) : zexec zc_X8_work zu_X8_work (zM d) (n + 1) 139 [.inr (.inr 38), .inl x1] σ = if x1 < 0 ∨ 1600 ≤ x1.toNatClampNeg then (none) else (zbI (zM d mX8_work [.inr (.inr 38), .inl (σ 46 x1.toNatClampNeg)] σ) (fun r1 s1 => if x1 < 0 ∨ 1600 ≤ x1.toNatClampNeg then (none) else (zbI (zM d mX8_work [.inr (.inr 38), .inl (s1 47 x1.toNatClampNeg)] s1) (fun r2 s2 => some (1, r1 * r2, s2))))) := ze rfl rfl rfl (zx rfl rfl (y2 rfl (zx rfl rfl (y2 rfl (zx rfl rfl (y14 (v := .inr (.inr 46)) rfl (zx rfl rfl (y1 rfl (zx rfl rfl (y16 (v := σ 46 x1.toNatClampNeg) rfl rfl (zx rfl rfl (y18 (r := []) rfl rfl rfl rfl rfl (fun r1 s1 => zx rfl rfl (y2 rfl (zx rfl rfl (y2 rfl (zx rfl rfl (y14 (v := .inr (.inr 47)) rfl (zx rfl rfl (y1 rfl (zx rfl rfl (y16 (v := s1 47 x1.toNatClampNeg) rfl rfl (zx rfl rfl (y18 (r := [.inl r1]) rfl rfl rfl rfl rfl (fun r2 s2 => zx rfl rfl (y7 (v := r1 * r2) rfl (zx rfl rfl y19)))))))))))))))))))))))))))
set_option maxRecDepth 100000 in
theorem qX8_work_38_161 (d n : Nat) (σ : zS) (x1 : Int32) : zexec zc_X8_work zu_X8_work (zM d) (n + 1) 161 [.inr (.inr 38), .inl x1] σ = if x1 < 0 ∨ 1600 ≤ x1.toNatClampNeg then (none) else (zbI (zM d mX8_work [.inr (.inr 38), .inl (σ 46 x1.toNatClampNeg)] σ) (fun r1 s1 => if x1 < 0 ∨ 1600 ≤ x1.toNatClampNeg then (none) else (zbI (zM d mX8_work [.inr (.inr 38), .inl (s1 47 x1.toNatClampNeg)] s1) (fun r2 s2 => if r1 < r2 then (some (1, 1, s2)) else (some (1, 0, s2)))))) := ze rfl rfl rfl (zx rfl rfl (y2 rfl (zx rfl rfl (y2 rfl (zx rfl rfl (y14 (v := .inr (.inr 46)) rfl (zx rfl rfl (y1 rfl (zx rfl rfl (y16 (v := σ 46 x1.toNatClampNeg) rfl rfl (zx rfl rfl (y18 (r := []) rfl rfl rfl rfl rfl (fun r1 s1 => zx rfl rfl (y2 rfl (zx rfl rfl (y2 rfl (zx rfl rfl (y14 (v := .inr (.inr 47)) rfl (zx rfl rfl (y1 rfl (zx rfl rfl (y16 (v := s1 47 x1.toNatClampNeg) rfl rfl (zx rfl rfl (y18 (r := [.inl r1]) rfl rfl rfl rfl rfl (fun r2 s2 => zx rfl rfl (y36 (zx rfl rfl (y0 (zx rfl rfl (y12 (zx rfl rfl y19))))) (zx rfl rfl (y0 (zx rfl rfl y19)))))))))))))))))))))))))))))
set_option maxRecDepth 100000 in
theorem qX8_patch_38_0 (d n : Nat) (σ : zS) (x1 : Int32) : zexec zc_X8_patch zu_X8_patch (zM d) (n + 1) 0 [.inr (.inr 38), .inl x1] σ = if (σ 38 34) = 0 then (zexec zc_X8_patch zu_X8_patch (zM d) n 7 [.inr (.inr 38), .inl x1] σ) else (zexec zc_X8_patch zu_X8_patch (zM d) n 49 [.inr (.inr 38), .inl x1] σ) := ze rfl rfl rfl (zx rfl rfl (y2 rfl (zx rfl rfl (y14 (v := .inl (σ 38 34)) rfl (zx rfl rfl (y32 (zxc rfl rfl rfl rfl) (zxc rfl rfl rfl rfl)))))))
set_option maxRecDepth 100000 in
theorem qX8_patch_38 (d : Nat) (σ : zS) (x1 : Int32) : zM (d + 1) mX8_patch [.inr (.inr 38), .inl x1] σ = zexec zc_X8_patch zu_X8_patch (zM d) (999999 + 1) 0 [.inr (.inr 38), .inl x1] σ := zM_eq (zat_X8_patch) rfl (Nat.le_of_ble_eq_true rfl)
set_option maxRecDepth 100000 in
theorem qX8_patch_38_7 (d n : Nat) (σ : zS) (x1 : Int32) : zexec zc_X8_patch zu_X8_patch (zM d) (n + 1) 7 [.inr (.inr 38), .inl x1] σ = zbI (zM d mX8_isCommand [.inr (.inr 38), .inl (σ 38 33)] σ) (fun r1 s1 => if r1 = 0 then (zexec zc_X8_patch zu_X8_patch (zM d) n 53 [.inr (.inr 38), .inl x1] s1) else (zexec zc_X8_patch zu_X8_patch (zM d) n 18 [.inr (.inr 38), .inl x1] s1)) := ze rfl rfl rfl (zx rfl rfl (y2 rfl (zx rfl rfl (y2 rfl (zx rfl rfl (y14 (v := .inl (σ 38 33)) rfl (zx rfl rfl (y18 (r := []) rfl rfl rfl rfl rfl (fun r1 s1 => zx rfl rfl (y32 (zxc rfl rfl rfl rfl) (zxc rfl rfl rfl rfl)))))))))))
set_option maxRecDepth 100000 in
theorem qX8_patch_38_49 (d n : Nat) (σ : zS) (x1 : Int32) : zexec zc_X8_patch zu_X8_patch (zM d) (n + 1) 49 [.inr (.inr 38), .inl x1] σ = zexec zc_X8_patch zu_X8_patch (zM d) n 55 [.inr (.inr 38), .inl x1, .inl 1] σ := ze rfl rfl rfl (zx rfl rfl (y0 (zx rfl rfl (y12 (zx rfl rfl (y4 rfl (zxc rfl rfl rfl rfl)))))))
set_option maxRecDepth 100000 in
theorem qX8_patch_38_18 (d n : Nat) (σ : zS) (x1 : Int32) : zexec zc_X8_patch zu_X8_patch (zM d) (n + 1) 18 [.inr (.inr 38), .inl x1] σ = if (σ 38 33) < 0 ∨ 201 ≤ (σ 38 33).toNatClampNeg then (none) else (if (σ 50 ((σ 38 33).toNatClampNeg)) = 3 then (zexec zc_X8_patch zu_X8_patch (zM d) n 31 [.inr (.inr 38), .inl x1] σ) else (zexec zc_X8_patch zu_X8_patch (zM d) n 53 [.inr (.inr 38), .inl x1] σ)) := ze rfl rfl rfl (zx rfl rfl (y2 rfl (zx rfl rfl (y14 (v := .inr (.inr 50)) rfl (zx rfl rfl (y2 rfl (zx rfl rfl (y14 (v := .inl (σ 38 33)) rfl (zx rfl rfl (y16 (v := σ 50 ((σ 38 33).toNatClampNeg)) rfl rfl (zx rfl rfl (y0 (zx rfl rfl (y35 (zxc rfl rfl rfl rfl) (zxc rfl rfl rfl rfl)))))))))))))))
set_option maxRecDepth 100000 in
theorem qX8_patch_38_53 (d n : Nat) (σ : zS) (x1 : Int32) : zexec zc_X8_patch zu_X8_patch (zM d) (n + 1) 53 [.inr (.inr 38), .inl x1] σ = zexec zc_X8_patch zu_X8_patch (zM d) n 55 [.inr (.inr 38), .inl x1, .inl 0] σ := ze rfl rfl rfl (zx rfl rfl (y0 (zx rfl rfl (y4 rfl (zxc rfl rfl rfl rfl)))))
set_option maxRecDepth 100000 in
theorem qX8_patch_38_55 (d n : Nat) (σ : zS) (x1 x2 : Int32) : zexec zc_X8_patch zu_X8_patch (zM d) (n + 1) 55 [.inr (.inr 38), .inl x1, .inl x2] σ = if x2 = 0 then (zexec zc_X8_patch zu_X8_patch (zM d) n 76 [.inr (.inr 38), .inl x1, .inl x2] σ) else (if x1 < 0 ∨ 1600 ≤ x1.toNatClampNeg then (none) else (zbI (zM d mX8_command [.inr (.inr 38), .inl 3, .inl (σ 47 x1.toNatClampNeg), .inl 0] σ) (fun r1 s1 => if r1 = (-1) then (some (0, 0, s1)) else (zexec zc_X8_patch zu_X8_patch (zM d) n 76 [.inr (.inr 38), .inl x1, .inl x2] s1)))) := ze rfl rfl rfl (zx rfl rfl (y1 rfl (zx rfl rfl (y32 (zxc rfl rfl rfl rfl) (zx rfl rfl (y2 rfl (zx rfl rfl (y0 (zx rfl rfl (y2 rfl (zx rfl rfl (y14 (v := .inr (.inr 47)) rfl (zx rfl rfl (y1 rfl (zx rfl rfl (y16 (v := σ 47 x1.toNatClampNeg) rfl rfl (zx rfl rfl (y0 (zx rfl rfl (y18 (r := []) rfl rfl rfl rfl rfl (fun r1 s1 => zx rfl rfl (y0 (zx rfl rfl (y35 (zx rfl rfl y20) (zxc rfl rfl rfl rfl)))))))))))))))))))))))))
set_option maxRecDepth 100000 in
theorem qX8_patch_38_31 (d n : Nat) (σ : zS) (x1 : Int32) : zexec zc_X8_patch zu_X8_patch (zM d) (n + 1) 31 [.inr (.inr 38), .inl x1] σ = if (σ 38 33) < 0 ∨ 201 ≤ (σ 38 33).toNatClampNeg then (none) else (if x1 < 0 ∨ 1600 ≤ x1.toNatClampNeg then (none) else (if (σ 51 ((σ 38 33).toNatClampNeg)) = (σ 47 x1.toNatClampNeg) then (zexec zc_X8_patch zu_X8_patch (zM d) n 49 [.inr (.inr 38), .inl x1] σ) else (zexec zc_X8_patch zu_X8_patch (zM d) n 53 [.inr (.inr 38), .inl x1] σ))) := ze rfl rfl rfl (zx rfl rfl (y2 rfl (zx rfl rfl (y14 (v := .inr (.inr 51)) rfl (zx rfl rfl (y2 rfl (zx rfl rfl (y14 (v := .inl (σ 38 33)) rfl (zx rfl rfl (y16 (v := σ 51 ((σ 38 33).toNatClampNeg)) rfl rfl (zx rfl rfl (y2 rfl (zx rfl rfl (y14 (v := .inr (.inr 47)) rfl (zx rfl rfl (y1 rfl (zx rfl rfl (y16 (v := σ 47 x1.toNatClampNeg) rfl rfl (zx rfl rfl (y35 (zxc rfl rfl rfl rfl) (zxc rfl rfl rfl rfl)))))))))))))))))))))
set_option maxRecDepth 100000 in
theorem qX8_patch_38_76 (d n : Nat) (σ : zS) (x1 x2 : Int32) : zexec zc_X8_patch zu_X8_patch (zM d) (n + 1) 76 [.inr (.inr 38), .inl x1, .inl x2] σ = if x1 < 0 ∨ 1600 ≤ x1.toNatClampNeg then (none) else (if x2 = 0 then (if (σ 46 x1.toNatClampNeg) < 0 ∨ 8 ≤ (σ 46 x1.toNatClampNeg).toNatClampNeg then (none) else (some (0, 0, wr σ 54 ((σ 46 x1.toNatClampNeg).toNatClampNeg) 0))) else (if (σ 46 x1.toNatClampNeg) < 0 ∨ 8 ≤ (σ 46 x1.toNatClampNeg).toNatClampNeg then (none) else (some (0, 0, wr σ 54 ((σ 46 x1.toNatClampNeg).toNatClampNeg) 1)))) := ze rfl rfl rfl (zx rfl rfl (y2 rfl (zx rfl rfl (y14 (v := .inr (.inr 54)) rfl (zx rfl rfl (y2 rfl (zx rfl rfl (y14 (v := .inr (.inr 46)) rfl (zx rfl rfl (y1 rfl (zx rfl rfl (y16 (v := σ 46 x1.toNatClampNeg) rfl rfl (zx rfl rfl (y1 rfl (zx rfl rfl (y32 (zx rfl rfl (y0 (zx rfl rfl (y17 rfl (zx rfl rfl y20))))) (zx rfl rfl (y0 (zx rfl rfl (y12 (zx rfl rfl (y17 rfl (zx rfl rfl y20)))))))))))))))))))))))
set_option maxRecDepth 100000 in
theorem qX8_isDone_38_0 (d n : Nat) (σ : zS) (x1 : Int32) : zexec zc_X8_isDone zu_X8_isDone (zM d) (n + 1) 0 [.inr (.inr 38), .inl x1] σ = if x1 < 0 then (some (1, 1, wr σ 38 44 (-2))) else (if x1 < (σ 38 33) then (if x1 < 0 ∨ 201 ≤ x1.toNatClampNeg then (none) else (if (σ 50 x1.toNatClampNeg) = 1 then (zexec zc_X8_isDone zu_X8_isDone (zM d) n 44 [.inr (.inr 38), .inl x1, .inl (x1 + 1)] (wr σ 38 44 (-2))) else (if x1 < 0 ∨ 201 ≤ x1.toNatClampNeg then (none) else (if (σ 50 x1.toNatClampNeg) = 2 then (zexec zc_X8_isDone zu_X8_isDone (zM d) n 44 [.inr (.inr 38), .inl x1, .inl (x1 + 1)] (wr σ 38 44 (-2))) else (some (1, 1, wr σ 38 44 (-2))))))) else (some (1, 1, wr σ 38 44 (-2)))) := ze rfl rfl rfl (zx rfl rfl (y2 rfl (zx rfl rfl (y0 (zx rfl rfl (y15 rfl (zx rfl rfl (y1 rfl (zx rfl rfl (y33 (zx rfl rfl (y0 (zx rfl rfl (y19l (by decide))))) (zx rfl rfl (y1 rfl (zx rfl rfl (y2 rfl (zx rfl rfl (y14 (v := .inl (σ 38 33)) rfl (zx rfl rfl (y36 (zx rfl rfl (y2 rfl (zx rfl rfl (y14 (v := .inr (.inr 50)) rfl (zx rfl rfl (y1 rfl (zx rfl rfl (y16 (v := σ 50 x1.toNatClampNeg) rfl rfl (zx rfl rfl (y0 (zx rfl rfl (y35 (zx rfl rfl (y1 rfl (zx rfl rfl (y0 (zx rfl rfl (y7 (v := x1 + 1) rfl (zx rfl rfl (y4 rfl (zxc rfl rfl rfl rfl))))))))) (zx rfl rfl (y2 rfl (zx rfl rfl (y14 (v := .inr (.inr 50)) rfl (zx rfl rfl (y1 rfl (zx rfl rfl (y16 (v := σ 50 x1.toNatClampNeg) rfl rfl (zx rfl rfl (y0 (zx rfl rfl (y35 (zx rfl rfl (y1 rfl (zx rfl rfl (y0 (zx rfl rfl (y7 (v := x1 + 1) rfl (zx rfl rfl (y4 rfl (zxc rfl rfl rfl rfl))))))))) (zx rfl rfl (y0 (zx rfl rfl (y19l (by decide))))))))))))))))))))))))))))) (zx rfl rfl (y0 (zx rfl rfl (y19l (by decide)))))))))))))))))))))))
set_option maxRecDepth 100000 in
theorem qX8_isDone_38 (d : Nat) (σ : zS) (x1 : Int32) : zM (d + 1) mX8_isDone [.inr (.inr 38), .inl x1] σ = zexec zc_X8_isDone zu_X8_isDone (zM d) (999999 + 1) 0 [.inr (.inr 38), .inl x1] σ := zM_eq (zat_X8_isDone) rfl (Nat.le_of_ble_eq_true rfl)
set_option maxRecDepth 100000 in
theorem qX8_isDone_38_44 (d n : Nat) (σ : zS) (x1 x2 : Int32) : zexec zc_X8_isDone zu_X8_isDone (zM d) (n + 1) 44 [.inr (.inr 38), .inl x1, .inl x2] σ = if x2 < (σ 38 32) then (if x2 < 0 ∨ 201 ≤ x2.toNatClampNeg then (none) else (if (σ 50 x2.toNatClampNeg) < 5 then (zexec zc_X8_isDone zu_X8_isDone (zM d) n 44 [.inr (.inr 38), .inl x1, .inl (x2 + 1)] σ) else (if x2 < 0 ∨ 201 ≤ x2.toNatClampNeg then (none) else (if 7 < (σ 50 x2.toNatClampNeg) then (zexec zc_X8_isDone zu_X8_isDone (zM d) n 44 [.inr (.inr 38), .inl x1, .inl (x2 + 1)] σ) else (if x2 < 0 ∨ 201 ≤ x2.toNatClampNeg then (none) else (if (σ 51 x2.toNatClampNeg) = x1 then (if x2 < 0 ∨ 201 ≤ x2.toNatClampNeg then (none) else (if (σ 50 x2.toNatClampNeg) = 5 then (if x2 < 0 ∨ 201 ≤ x2.toNatClampNeg then (none) else (some (1, 1, wr σ 38 44 (σ 52 x2.toNatClampNeg)))) else (if x2 < 0 ∨ 201 ≤ x2.toNatClampNeg then (none) else (if (σ 50 x2.toNatClampNeg) = 6 then (some (1, 1, wr σ 38 44 (-1))) else (some (1, 1, wr σ 38 44 0)))))) else (zexec zc_X8_isDone zu_X8_isDone (zM d) n 44 [.inr (.inr 38), .inl x1, .inl (x2 + 1)] σ))))))) else (some (1, 0, σ)) := ze rfl rfl rfl (zx rfl rfl (y1 rfl (zx rfl rfl (y2 rfl (zx rfl rfl (y14 (v := .inl (σ 38 32)) rfl (zx rfl rfl (y36 (zx rfl rfl (y2 rfl (zx rfl rfl (y14 (v := .inr (.inr 50)) rfl (zx rfl rfl (y1 rfl (zx rfl rfl (y16 (v := σ 50 x2.toNatClampNeg) rfl rfl (zx rfl rfl (y0 (zx rfl rfl (y36 (zx rfl rfl (y6 rfl rfl (zx rfl rfl (y12 (zxc rfl rfl rfl rfl))))) (zx rfl rfl (y2 rfl (zx rfl rfl (y14 (v := .inr (.inr 50)) rfl (zx rfl rfl (y1 rfl (zx rfl rfl (y16 (v := σ 50 x2.toNatClampNeg) rfl rfl (zx rfl rfl (y0 (zx rfl rfl (y37 (zx rfl rfl (y6 rfl rfl (zx rfl rfl (y12 (zxc rfl rfl rfl rfl))))) (zx rfl rfl (y2 rfl (zx rfl rfl (y14 (v := .inr (.inr 51)) rfl (zx rfl rfl (y1 rfl (zx rfl rfl (y16 (v := σ 51 x2.toNatClampNeg) rfl rfl (zx rfl rfl (y1 rfl (zx rfl rfl (y35 (zx rfl rfl (y2 rfl (zx rfl rfl (y2 rfl (zx rfl rfl (y14 (v := .inr (.inr 50)) rfl (zx rfl rfl (y1 rfl (zx rfl rfl (y16 (v := σ 50 x2.toNatClampNeg) rfl rfl (zx rfl rfl (y0 (zx rfl rfl (y35 (zx rfl rfl (y2 rfl (zx rfl rfl (y14 (v := .inr (.inr 52)) rfl (zx rfl rfl (y1 rfl (zx rfl rfl (y16 (v := σ 52 x2.toNatClampNeg) rfl rfl (zx rfl rfl (y12 (zx rfl rfl (y15 rfl (zx rfl rfl (y0 (zx rfl rfl (y19l (by decide))))))))))))))))) (zx rfl rfl (y2 rfl (zx rfl rfl (y14 (v := .inr (.inr 50)) rfl (zx rfl rfl (y1 rfl (zx rfl rfl (y16 (v := σ 50 x2.toNatClampNeg) rfl rfl (zx rfl rfl (y0 (zx rfl rfl (y35 (zx rfl rfl (y0 (zx rfl rfl (y12 (zx rfl rfl (y15 rfl (zx rfl rfl (y0 (zx rfl rfl (y19l (by decide))))))))))) (zx rfl rfl (y0 (zx rfl rfl (y15 rfl (zx rfl rfl (y0 (zx rfl rfl (y19l (by decide))))))))))))))))))))))))))))))))))) (zx rfl rfl (y12 (zx rfl rfl (y6 rfl rfl (zx rfl rfl (y12 (zxc rfl rfl rfl rfl))))))))))))))))))))))))))))))))))))))))))) (zx rfl rfl (y0 (zx rfl rfl (y19l (by decide)))))))))))))
set_option maxRecDepth 100000 in
theorem qX8_waits_38_0 (d n : Nat) (σ : zS) (x1 : Int32) : zexec zc_X8_waits zu_X8_waits (zM d) (n + 1) 0 [.inr (.inr 38), .inl x1] σ = zbI (zM d mX8_isReady [.inr (.inr 38), .inl x1] σ) (fun r1 s1 => zexec zc_X8_waits zu_X8_waits (zM d) n 6 [.inr (.inr 38), .inl x1, .inl r1] s1) := ze rfl rfl rfl (zx rfl rfl (y2 rfl (zx rfl rfl (y1 rfl (zx rfl rfl (y18 (r := []) rfl rfl rfl rfl rfl (fun r1 s1 => zx rfl rfl (y4 rfl (zxc rfl rfl rfl rfl)))))))))
set_option maxRecDepth 100000 in
theorem qX8_waits_38 (d : Nat) (σ : zS) (x1 : Int32) : zM (d + 1) mX8_waits [.inr (.inr 38), .inl x1] σ = zexec zc_X8_waits zu_X8_waits (zM d) (999999 + 1) 0 [.inr (.inr 38), .inl x1] σ := zM_eq (zat_X8_waits) rfl (Nat.le_of_ble_eq_true rfl)
set_option maxRecDepth 100000 in
theorem qX8_waits_38_6 (d n : Nat) (σ : zS) (x1 x2 : Int32) : zexec zc_X8_waits zu_X8_waits (zM d) (n + 1) 6 [.inr (.inr 38), .inl x1, .inl x2] σ = if x2 = 0 then (if (σ 38 31) = 0 then (zbV (zM d mX8_goOn [.inr (.inr 38)] σ) (fun s1 => if (s1 38 31) = 0 then (zbI (zM d mX8_step [.inr (.inr 38)] s1) (fun r2 s2 => if r2 = 0 then (zexec zc_X8_waits zu_X8_waits (zM d) n 6 [.inr (.inr 38), .inl x1, .inl 0] s2) else (zbI (zM d mX8_isReady [.inr (.inr 38), .inl x1] s2) (fun r3 s3 => if r3 = 0 then (zexec zc_X8_waits zu_X8_waits (zM d) n 6 [.inr (.inr 38), .inl x1, .inl 0] s3) else (zexec zc_X8_waits zu_X8_waits (zM d) n 6 [.inr (.inr 38), .inl x1, .inl 1] s3))))) else (zexec zc_X8_waits zu_X8_waits (zM d) n 6 [.inr (.inr 38), .inl x1, .inl 0] s1))) else (zexec zc_X8_waits zu_X8_waits (zM d) n 52 [.inr (.inr 38), .inl x1, .inl x2] σ)) else (zexec zc_X8_waits zu_X8_waits (zM d) n 52 [.inr (.inr 38), .inl x1, .inl x2] σ) := ze rfl rfl rfl (zx rfl rfl (y1 rfl (zx rfl rfl (y32 (zx rfl rfl (y2 rfl (zx rfl rfl (y14 (v := .inl (σ 38 31)) rfl (zx rfl rfl (y32 (zx rfl rfl (y2 rfl (zx rfl rfl (y30 (r := []) rfl rfl rfl rfl rfl (fun s1 => zx rfl rfl (y2 rfl (zx rfl rfl (y14 (v := .inl (s1 38 31)) rfl (zx rfl rfl (y32 (zx rfl rfl (y2 rfl (zx rfl rfl (y18 (r := []) rfl rfl rfl rfl rfl (fun r2 s2 => zx rfl rfl (y32 (zx rfl rfl (y0 (zx rfl rfl (y4 rfl (zx rfl rfl (y12 (zxc rfl rfl rfl rfl))))))) (zx rfl rfl (y2 rfl (zx rfl rfl (y1 rfl (zx rfl rfl (y18 (r := []) rfl rfl rfl rfl rfl (fun r3 s3 => zx rfl rfl (y32 (zx rfl rfl (y0 (zx rfl rfl (y4 rfl (zx rfl rfl (y12 (zxc rfl rfl rfl rfl))))))) (zx rfl rfl (y0 (zx rfl rfl (y12 (zx rfl rfl (y4 rfl (zx rfl rfl (y12 (zxc rfl rfl rfl rfl))))))))))))))))))))))) (zx rfl rfl (y0 (zx rfl rfl (y4 rfl (zx rfl rfl (y12 (zxc rfl rfl rfl rfl))))))))))))))))) (zxc rfl rfl rfl rfl))))))) (zxc rfl rfl rfl rfl)))))
set_option maxRecDepth 100000 in
theorem qX8_waits_38_52 (d n : Nat) (σ : zS) (x1 x2 : Int32) : zexec zc_X8_waits zu_X8_waits (zM d) (n + 1) 52 [.inr (.inr 38), .inl x1, .inl x2] σ = if x2 = 0 then (some (0, 0, σ)) else (if x1 < 0 ∨ 1600 ≤ x1.toNatClampNeg then (none) else (if (σ 46 x1.toNatClampNeg) < 0 ∨ 8 ≤ (σ 46 x1.toNatClampNeg).toNatClampNeg then (none) else (zexec zc_X8_waits zu_X8_waits (zM d) n 72 [.inr (.inr 38), .inl x1] (wr σ 54 ((σ 46 x1.toNatClampNeg).toNatClampNeg) (σ 38 44))))) := ze rfl rfl rfl (zx rfl rfl (y1 rfl (zx rfl rfl (y32 (zx rfl rfl y20) (zx rfl rfl (y2 rfl (zx rfl rfl (y14 (v := .inr (.inr 54)) rfl (zx rfl rfl (y2 rfl (zx rfl rfl (y14 (v := .inr (.inr 46)) rfl (zx rfl rfl (y1 rfl (zx rfl rfl (y16 (v := σ 46 x1.toNatClampNeg) rfl rfl (zx rfl rfl (y2 rfl (zx rfl rfl (y14 (v := .inl (σ 38 44)) rfl (zx rfl rfl (y17 rfl (zxc rfl rfl rfl rfl)))))))))))))))))))))))
set_option maxRecDepth 100000 in
theorem qX8_waits_38_72 (d n : Nat) (σ : zS) (x1 : Int32) : zexec zc_X8_waits zu_X8_waits (zM d) (n + 1) 72 [.inr (.inr 38), .inl x1] σ = if x1 < 0 ∨ 1600 ≤ x1.toNatClampNeg then (none) else (if (σ 45 x1.toNatClampNeg) = 5 then (some (0, 0, wr σ 38 37 ((σ 38 37) + 1))) else (some (0, 0, wr σ 38 37 ((σ 38 37) + 0)))) := ze rfl rfl rfl (zx rfl rfl (y2 rfl (zx rfl rfl (y21 rfl (zx rfl rfl (y14 (v := .inl (σ 38 37)) rfl (zx rfl rfl (y2 rfl (zx rfl rfl (y14 (v := .inr (.inr 45)) rfl (zx rfl rfl (y1 rfl (zx rfl rfl (y16 (v := σ 45 x1.toNatClampNeg) rfl rfl (zx rfl rfl (y0 (zx rfl rfl (y35 (zx rfl rfl (y0 (zx rfl rfl (y12 (zx rfl rfl (y7 (v := (σ 38 37) + 1) rfl (zx rfl rfl (y15 rfl (zx rfl rfl y20))))))))) (zx rfl rfl (y0 (zx rfl rfl (y7 (v := (σ 38 37) + 0) rfl (zx rfl rfl (y15 rfl (zx rfl rfl y20)))))))))))))))))))))))))
set_option maxRecDepth 100000 in
theorem qX8_isCommand_38_0 (d n : Nat) (σ : zS) (x1 : Int32) : zexec zc_X8_isCommand zu_X8_isCommand (zM d) (n + 1) 0 [.inr (.inr 38), .inl x1] σ = if x1 < (σ 38 20) then (if x1 < 0 ∨ 201 ≤ x1.toNatClampNeg then (none) else (if (σ 50 x1.toNatClampNeg) < 1 then (some (1, 0, σ)) else (if x1 < 0 ∨ 201 ≤ x1.toNatClampNeg then (none) else (if 4 < (σ 50 x1.toNatClampNeg) then (some (1, 0, σ)) else (some (1, 1, σ)))))) else (some (1, 0, σ)) := ze rfl rfl rfl (zx rfl rfl (y1 rfl (zx rfl rfl (y2 rfl (zx rfl rfl (y14 (v := .inl (σ 38 20)) rfl (zx rfl rfl (y36 (zx rfl rfl (y2 rfl (zx rfl rfl (y14 (v := .inr (.inr 50)) rfl (zx rfl rfl (y1 rfl (zx rfl rfl (y16 (v := σ 50 x1.toNatClampNeg) rfl rfl (zx rfl rfl (y0 (zx rfl rfl (y36 (zx rfl rfl (y0 (zx rfl rfl (y19l (by decide))))) (zx rfl rfl (y2 rfl (zx rfl rfl (y14 (v := .inr (.inr 50)) rfl (zx rfl rfl (y1 rfl (zx rfl rfl (y16 (v := σ 50 x1.toNatClampNeg) rfl rfl (zx rfl rfl (y0 (zx rfl rfl (y37 (zx rfl rfl (y0 (zx rfl rfl (y19l (by decide))))) (zx rfl rfl (y0 (zx rfl rfl (y12 (zx rfl rfl (y19l (by decide))))))))))))))))))))))))))))))) (zx rfl rfl (y0 (zx rfl rfl (y19l (by decide)))))))))))))
set_option maxRecDepth 100000 in
theorem qX8_isCommand_38 (d : Nat) (σ : zS) (x1 : Int32) : zM (d + 1) mX8_isCommand [.inr (.inr 38), .inl x1] σ = zexec zc_X8_isCommand zu_X8_isCommand (zM d) (999999 + 1) 0 [.inr (.inr 38), .inl x1] σ := zM_eq (zat_X8_isCommand) rfl (Nat.le_of_ble_eq_true rfl)
set_option maxRecDepth 100000 in
theorem qX8_readTerm_38_0 (d n : Nat) (σ : zS) : zexec zc_X8_readTerm zu_X8_readTerm (zM d) (n + 1) 0 [.inr (.inr 38)] σ = zbI (zM d mX8_readFactor [.inr (.inr 38)] σ) (fun r1 s1 => if r1 = 0 then (some (1, 0, s1)) else (zexec zc_X8_readTerm zu_X8_readTerm (zM d) n 9 [.inr (.inr 38)] s1)) := ze rfl rfl rfl (zx rfl rfl (y2 rfl (zx rfl rfl (y18 (r := []) rfl rfl rfl rfl rfl (fun r1 s1 => zx rfl rfl (y32 (zx rfl rfl (y0 (zx rfl rfl (y19l (by decide))))) (zxc rfl rfl rfl rfl)))))))
set_option maxRecDepth 100000 in
theorem qX8_readTerm_38 (d : Nat) (σ : zS) : zM (d + 1) mX8_readTerm [.inr (.inr 38)] σ = zexec zc_X8_readTerm zu_X8_readTerm (zM d) (999999 + 1) 0 [.inr (.inr 38)] σ := zM_eq (zat_X8_readTerm) rfl (Nat.le_of_ble_eq_true rfl)
set_option maxRecDepth 100000 in
theorem qX8_readTerm_38_9 (d n : Nat) (σ : zS) : zexec zc_X8_readTerm zu_X8_readTerm (zM d) (n + 1) 9 [.inr (.inr 38)] σ = zbI (zM d mX8_takes [.inr (.inr 38), .inl 42] σ) (fun r1 s1 => if r1 = 0 then (some (1, 1, s1)) else (zbI (zM d mX8_readFactor [.inr (.inr 38)] s1) (fun r2 s2 => if r2 = 0 then (some (1, 0, s2)) else (zbI (zM d mX8_node [.inr (.inr 38), .inl 42, .inl (s1 38 41), .inl (s2 38 41), .inl 0] s2) (fun r3 s3 => zexec zc_X8_readTerm zu_X8_readTerm (zM d) n 9 [.inr (.inr 38)] (wr s3 38 41 r3)))))) := ze rfl rfl rfl (zx rfl rfl (y2 rfl (zx rfl rfl (y0 (zx rfl rfl (y18 (r := []) rfl rfl rfl rfl rfl (fun r1 s1 => zx rfl rfl (y32 (zx rfl rfl (y0 (zx rfl rfl (y19l (by decide))))) (zx rfl rfl (y2 rfl (zx rfl rfl (y14 (v := .inl (s1 38 41)) rfl (zx rfl rfl (y4 rfl (zx rfl rfl (y2 rfl (zx rfl rfl (y18 (r := []) rfl rfl rfl rfl rfl (fun r2 s2 => zx rfl rfl (y32 (zx rfl rfl (y0 (zx rfl rfl (y19l (by decide))))) (zx rfl rfl (y2 rfl (zx rfl rfl (y2 rfl (zx rfl rfl (y0 (zx rfl rfl (y1 rfl (zx rfl rfl (y2 rfl (zx rfl rfl (y14 (v := .inl (s2 38 41)) rfl (zx rfl rfl (y0 (zx rfl rfl (y18 (r := [.inr (.inr 38)]) rfl rfl rfl rfl rfl (fun r3 s3 => zx rfl rfl (y15 rfl (zx rfl rfl (y12 (zxc rfl rfl rfl rfl)))))))))))))))))))))))))))))))))))))))))
set_option maxRecDepth 100000 in
theorem qX8_isReady_38_0 (d n : Nat) (σ : zS) (x1 : Int32) : zexec zc_X8_isReady zu_X8_isReady (zM d) (n + 1) 0 [.inr (.inr 38), .inl x1] σ = if x1 < 0 ∨ 1600 ≤ x1.toNatClampNeg then (none) else (if (σ 45 x1.toNatClampNeg) = 9 then (zexec zc_X8_isReady zu_X8_isReady (zM d) n 11 [.inr (.inr 38), .inl x1] σ) else (zexec zc_X8_isReady zu_X8_isReady (zM d) n 27 [.inr (.inr 38), .inl x1] σ)) := ze rfl rfl rfl (zx rfl rfl (y2 rfl (zx rfl rfl (y14 (v := .inr (.inr 45)) rfl (zx rfl rfl (y1 rfl (zx rfl rfl (y16 (v := σ 45 x1.toNatClampNeg) rfl rfl (zx rfl rfl (y0 (zx rfl rfl (y35 (zxc rfl rfl rfl rfl) (zxc rfl rfl rfl rfl)))))))))))))
set_option maxRecDepth 100000 in
theorem qX8_isReady_38 (d : Nat) (σ : zS) (x1 : Int32) : zM (d + 1) mX8_isReady [.inr (.inr 38), .inl x1] σ = zexec zc_X8_isReady zu_X8_isReady (zM d) (999999 + 1) 0 [.inr (.inr 38), .inl x1] σ := zM_eq (zat_X8_isReady) rfl (Nat.le_of_ble_eq_true rfl)
set_option maxRecDepth 100000 in
theorem qX8_isReady_38_11 (d n : Nat) (σ : zS) (x1 : Int32) : zexec zc_X8_isReady zu_X8_isReady (zM d) (n + 1) 11 [.inr (.inr 38), .inl x1] σ = if x1 < 0 ∨ 1600 ≤ x1.toNatClampNeg then (none) else (if (σ 47 x1.toNatClampNeg) < 0 ∨ 8 ≤ (σ 47 x1.toNatClampNeg).toNatClampNeg then (none) else (zbI (zM d mX8_isDone [.inr (.inr 38), .inl (σ 54 ((σ 47 x1.toNatClampNeg).toNatClampNeg))] σ) (fun r1 s1 => if r1 = 0 ∨ r1 = 1 then (some (1, r1, s1)) else (none)))) := ze rfl rfl rfl (zx rfl rfl (y2 rfl (zx rfl rfl (y2 rfl (zx rfl rfl (y14 (v := .inr (.inr 54)) rfl (zx rfl rfl (y2 rfl (zx rfl rfl (y14 (v := .inr (.inr 47)) rfl (zx rfl rfl (y1 rfl (zx rfl rfl (y16 (v := σ 47 x1.toNatClampNeg) rfl rfl (zx rfl rfl (y16 (v := σ 54 ((σ 47 x1.toNatClampNeg).toNatClampNeg)) rfl rfl (zx rfl rfl (y18 (r := []) rfl rfl rfl rfl rfl (fun r1 s1 => zx rfl rfl y19b)))))))))))))))))))
set_option maxRecDepth 100000 in
theorem qX8_isReady_38_27 (d n : Nat) (σ : zS) (x1 : Int32) : zexec zc_X8_isReady zu_X8_isReady (zM d) (n + 1) 27 [.inr (.inr 38), .inl x1] σ = if x1 < 0 ∨ 1600 ≤ x1.toNatClampNeg then (none) else (if (σ 45 x1.toNatClampNeg) = 5 then (zbI (zM d mX8_hasSignal [.inr (.inr 38)] σ) (fun r1 s1 => if r1 = 0 ∨ r1 = 1 then (some (1, r1, s1)) else (none))) else (zexec zc_X8_isReady zu_X8_isReady (zM d) n 42 [.inr (.inr 38), .inl x1] σ)) := ze rfl rfl rfl (zx rfl rfl (y2 rfl (zx rfl rfl (y14 (v := .inr (.inr 45)) rfl (zx rfl rfl (y1 rfl (zx rfl rfl (y16 (v := σ 45 x1.toNatClampNeg) rfl rfl (zx rfl rfl (y0 (zx rfl rfl (y35 (zx rfl rfl (y2 rfl (zx rfl rfl (y18 (r := []) rfl rfl rfl rfl rfl (fun r1 s1 => zx rfl rfl y19b))))) (zxc rfl rfl rfl rfl)))))))))))))
set_option maxRecDepth 100000 in
theorem qX8_isReady_38_42 (d n : Nat) (σ : zS) (x1 : Int32) : zexec zc_X8_isReady zu_X8_isReady (zM d) (n + 1) 42 [.inr (.inr 38), .inl x1] σ = if x1 < 0 ∨ 1600 ≤ x1.toNatClampNeg then (none) else (if (σ 47 x1.toNatClampNeg) < 0 ∨ 8 ≤ (σ 47 x1.toNatClampNeg).toNatClampNeg then (none) else (zbI (zM d mX8_isDone [.inr (.inr 38), .inl (σ 54 ((σ 47 x1.toNatClampNeg).toNatClampNeg))] σ) (fun r1 s1 => if r1 = 0 then (zexec zc_X8_isReady zu_X8_isReady (zM d) n 67 [.inr (.inr 38), .inl x1] s1) else (some (1, 1, wr s1 38 44 1))))) := ze rfl rfl rfl (zx rfl rfl (y2 rfl (zx rfl rfl (y2 rfl (zx rfl rfl (y14 (v := .inr (.inr 54)) rfl (zx rfl rfl (y2 rfl (zx rfl rfl (y14 (v := .inr (.inr 47)) rfl (zx rfl rfl (y1 rfl (zx rfl rfl (y16 (v := σ 47 x1.toNatClampNeg) rfl rfl (zx rfl rfl (y16 (v := σ 54 ((σ 47 x1.toNatClampNeg).toNatClampNeg)) rfl rfl (zx rfl rfl (y18 (r := []) rfl rfl rfl rfl rfl (fun r1 s1 => zx rfl rfl (y32 (zxc rfl rfl rfl rfl) (zx rfl rfl (y2 rfl (zx rfl rfl (y0 (zx rfl rfl (y15 rfl (zx rfl rfl (y0 (zx rfl rfl (y19l (by decide)))))))))))))))))))))))))))))))
set_option maxRecDepth 100000 in
theorem qX8_isReady_38_67 (d n : Nat) (σ : zS) (x1 : Int32) : zexec zc_X8_isReady zu_X8_isReady (zM d) (n + 1) 67 [.inr (.inr 38), .inl x1] σ = if x1 < 0 ∨ 1600 ≤ x1.toNatClampNeg then (none) else (if (σ 48 x1.toNatClampNeg) < 0 ∨ 8 ≤ (σ 48 x1.toNatClampNeg).toNatClampNeg then (none) else (zbI (zM d mX8_isDone [.inr (.inr 38), .inl (σ 54 ((σ 48 x1.toNatClampNeg).toNatClampNeg))] σ) (fun r1 s1 => if r1 = 0 ∨ r1 = 1 then (some (1, r1, wr s1 38 44 2)) else (none)))) := ze rfl rfl rfl (zx rfl rfl (y2 rfl (zx rfl rfl (y2 rfl (zx rfl rfl (y14 (v := .inr (.inr 54)) rfl (zx rfl rfl (y2 rfl (zx rfl rfl (y14 (v := .inr (.inr 48)) rfl (zx rfl rfl (y1 rfl (zx rfl rfl (y16 (v := σ 48 x1.toNatClampNeg) rfl rfl (zx rfl rfl (y16 (v := σ 54 ((σ 48 x1.toNatClampNeg).toNatClampNeg)) rfl rfl (zx rfl rfl (y18 (r := []) rfl rfl rfl rfl rfl (fun r1 s1 => zx rfl rfl (y4 rfl (zx rfl rfl (y2 rfl (zx rfl rfl (y0 (zx rfl rfl (y15 rfl (zx rfl rfl (y1 rfl (zx rfl rfl y19b)))))))))))))))))))))))))))))
set_option maxRecDepth 100000 in
theorem qX8_readFactor_38_0 (d n : Nat) (σ : zS) : zexec zc_X8_readFactor zu_X8_readFactor (zM d) (n + 1) 0 [.inr (.inr 38)] σ = if (σ 38 8) < 0 ∨ 402 ≤ (σ 38 8).toNatClampNeg then (none) else (if (σ 40 ((σ 38 8).toNatClampNeg)) = 2 then (if (σ 38 8) < 0 ∨ 402 ≤ (σ 38 8).toNatClampNeg then (none) else (zbI (zM d mX8_node [.inr (.inr 38), .inl 48, .inl (σ 42 ((σ 38 8).toNatClampNeg)), .inl 0, .inl 0] σ) (fun r1 s1 => some (1, 1, wr (wr s1 38 41 r1) 38 8 ((s1 38 8) + 1))))) else (if (σ 38 8) < 0 ∨ 402 ≤ (σ 38 8).toNatClampNeg then (none) else (if (σ 40 ((σ 38 8).toNatClampNeg)) = 1 then (if (σ 38 8) < 0 ∨ 402 ≤ (σ 38 8).toNatClampNeg then (none) else (if (σ 42 ((σ 38 8).toNatClampNeg)) < 20 then (zexec zc_X8_readFactor zu_X8_readFactor (zM d) n 109 [.inr (.inr 38)] σ) else (if (σ 38 8) < 0 ∨ 402 ≤ (σ 38 8).toNatClampNeg then (none) else (zbI (zM d mX8_node [.inr (.inr 38), .inl 114, .inl ((σ 42 ((σ 38 8).toNatClampNeg)) - 20), .inl 0, .inl 0] σ) (fun r2 s2 => some (1, 1, wr (wr s2 38 41 r2) 38 8 ((s2 38 8) + 1))))))) else (zexec zc_X8_readFactor zu_X8_readFactor (zM d) n 109 [.inr (.inr 38)] σ)))) := ze rfl rfl rfl (zx rfl rfl (y2 rfl (zx rfl rfl (y14 (v := .inr (.inr 40)) rfl (zx rfl rfl (y2 rfl (zx rfl rfl (y14 (v := .inl (σ 38 8)) rfl (zx rfl rfl (y16 (v := σ 40 ((σ 38 8).toNatClampNeg)) rfl rfl (zx rfl rfl (y0 (zx rfl rfl (y35 (zx rfl rfl (y2 rfl (zx rfl rfl (y2 rfl (zx rfl rfl (y0 (zx rfl rfl (y2 rfl (zx rfl rfl (y14 (v := .inr (.inr 42)) rfl (zx rfl rfl (y2 rfl (zx rfl rfl (y14 (v := .inl (σ 38 8)) rfl (zx rfl rfl (y16 (v := σ 42 ((σ 38 8).toNatClampNeg)) rfl rfl (zx rfl rfl (y0 (zx rfl rfl (y0 (zx rfl rfl (y18 (r := [.inr (.inr 38)]) rfl rfl rfl rfl rfl (fun r1 s1 => zx rfl rfl (y15 rfl (zx rfl rfl (y2 rfl (zx rfl rfl (y21 rfl (zx rfl rfl (y14 (v := .inl (s1 38 8)) rfl (zx rfl rfl (y0 (zx rfl rfl (y7 (v := (s1 38 8) + 1) rfl (zx rfl rfl (y15 rfl (zx rfl rfl (y0 (zx rfl rfl (y19l (by decide))))))))))))))))))))))))))))))))))))))))) (zx rfl rfl (y2 rfl (zx rfl rfl (y14 (v := .inr (.inr 40)) rfl (zx rfl rfl (y2 rfl (zx rfl rfl (y14 (v := .inl (σ 38 8)) rfl (zx rfl rfl (y16 (v := σ 40 ((σ 38 8).toNatClampNeg)) rfl rfl (zx rfl rfl (y0 (zx rfl rfl (y35 (zx rfl rfl (y2 rfl (zx rfl rfl (y14 (v := .inr (.inr 42)) rfl (zx rfl rfl (y2 rfl (zx rfl rfl (y14 (v := .inl (σ 38 8)) rfl (zx rfl rfl (y16 (v := σ 42 ((σ 38 8).toNatClampNeg)) rfl rfl (zx rfl rfl (y0 (zx rfl rfl (y36 (zxc rfl rfl rfl rfl) (zx rfl rfl (y2 rfl (zx rfl rfl (y2 rfl (zx rfl rfl (y0 (zx rfl rfl (y2 rfl (zx rfl rfl (y14 (v := .inr (.inr 42)) rfl (zx rfl rfl (y2 rfl (zx rfl rfl (y14 (v := .inl (σ 38 8)) rfl (zx rfl rfl (y16 (v := σ 42 ((σ 38 8).toNatClampNeg)) rfl rfl (zx rfl rfl (y0 (zx rfl rfl (y7 (v := (σ 42 ((σ 38 8).toNatClampNeg)) - 20) rfl (zx rfl rfl (y0 (zx rfl rfl (y0 (zx rfl rfl (y18 (r := [.inr (.inr 38)]) rfl rfl rfl rfl rfl (fun r2 s2 => zx rfl rfl (y15 rfl (zx rfl rfl (y2 rfl (zx rfl rfl (y21 rfl (zx rfl rfl (y14 (v := .inl (s2 38 8)) rfl (zx rfl rfl (y0 (zx rfl rfl (y7 (v := (s2 38 8) + 1) rfl (zx rfl rfl (y15 rfl (zx rfl rfl (y0 (zx rfl rfl (y19l (by decide))))))))))))))))))))))))))))))))))))))))))))))))))))))))))) (zxc rfl rfl rfl rfl)))))))))))))))))))))))))))))
set_option maxRecDepth 100000 in
theorem qX8_readFactor_38 (d : Nat) (σ : zS) : zM (d + 1) mX8_readFactor [.inr (.inr 38)] σ = zexec zc_X8_readFactor zu_X8_readFactor (zM d) (999999 + 1) 0 [.inr (.inr 38)] σ := zM_eq (zat_X8_readFactor) rfl (Nat.le_of_ble_eq_true rfl)
set_option maxRecDepth 100000 in
theorem qX8_readFactor_38_109 (d n : Nat) (σ : zS) : zexec zc_X8_readFactor zu_X8_readFactor (zM d) (n + 1) 109 [.inr (.inr 38)] σ = zbI (zM d mX8_is [.inr (.inr 38), .inl 45] σ) (fun r1 s1 => if r1 = 0 then (zbI (zM d mX8_is [.inr (.inr 38), .inl 40] s1) (fun r2 s2 => if r2 = 0 then (zbI (zM d mX8_refuse [.inr (.inr 38)] s2) (fun r3 s3 => if r3 = 0 ∨ r3 = 1 then (some (1, r3, s3)) else (none))) else (zexec zc_X8_readFactor zu_X8_readFactor (zM d) n 134 [.inr (.inr 38), .inl r1] s2))) else (zexec zc_X8_readFactor zu_X8_readFactor (zM d) n 134 [.inr (.inr 38), .inl r1] s1)) := ze rfl rfl rfl (zx rfl rfl (y2 rfl (zx rfl rfl (y0 (zx rfl rfl (y18 (r := []) rfl rfl rfl rfl rfl (fun r1 s1 => zx rfl rfl (y4 rfl (zx rfl rfl (y1 rfl (zx rfl rfl (y32 (zx rfl rfl (y2 rfl (zx rfl rfl (y0 (zx rfl rfl (y18 (r := []) rfl rfl rfl rfl rfl (fun r2 s2 => zx rfl rfl (y32 (zx rfl rfl (y2 rfl (zx rfl rfl (y18 (r := []) rfl rfl rfl rfl rfl (fun r3 s3 => zx rfl rfl y19b))))) (zxc rfl rfl rfl rfl))))))))) (zxc rfl rfl rfl rfl)))))))))))))
set_option maxRecDepth 100000 in
theorem qX8_readFactor_38_134 (d n : Nat) (σ : zS) (x1 : Int32) : zexec zc_X8_readFactor zu_X8_readFactor (zM d) (n + 1) 134 [.inr (.inr 38), .inl x1] σ = zbI (zM d mX8_deeper [.inr (.inr 38)] σ) (fun r1 s1 => if r1 = 0 then (some (1, 0, s1)) else (if x1 = 0 then (zbI (zM d mX8_readX [.inr (.inr 38)] s1) (fun r2 s2 => if r2 = 0 then (some (1, 0, s2)) else (zbI (zM d mX8_want [.inr (.inr 38), .inl 41] s2) (fun r3 s3 => if r3 = 0 then (some (1, 0, s3)) else (if x1 = 0 then (some (1, 1, wr s3 38 9 ((s3 38 9) - 1))) else (zbI (zM d mX8_node [.inr (.inr 38), .inl 110, .inl (s3 38 41), .inl 0, .inl 0] s3) (fun r4 s4 => some (1, 1, wr (wr s4 38 41 r4) 38 9 ((s4 38 9) - 1))))))))) else (zbI (zM d mX8_readFactor [.inr (.inr 38)] s1) (fun r5 s5 => if r5 = 0 then (some (1, 0, s5)) else (if x1 = 0 then (some (1, 1, wr s5 38 9 ((s5 38 9) - 1))) else (zbI (zM d mX8_node [.inr (.inr 38), .inl 110, .inl (s5 38 41), .inl 0, .inl 0] s5) (fun r6 s6 => some (1, 1, wr (wr s6 38 41 r6) 38 9 ((s6 38 9) - 1))))))))) := ze rfl rfl rfl (zx rfl rfl (y2 rfl (zx rfl rfl (y18 (r := []) rfl rfl rfl rfl rfl (fun r1 s1 => zx rfl rfl (y32 (zx rfl rfl (y0 (zx rfl rfl (y19l (by decide))))) (zx rfl rfl (y1 rfl (zx rfl rfl (y32 (zx rfl rfl (y2 rfl (zx rfl rfl (y18 (r := []) rfl rfl rfl rfl rfl (fun r2 s2 => zx rfl rfl (y32 (zx rfl rfl (y0 (zx rfl rfl (y19l (by decide))))) (zx rfl rfl (y2 rfl (zx rfl rfl (y0 (zx rfl rfl (y18 (r := []) rfl rfl rfl rfl rfl (fun r3 s3 => zx rfl rfl (y32 (zx rfl rfl (y0 (zx rfl rfl (y19l (by decide))))) (zx rfl rfl (y1 rfl (zx rfl rfl (y32 (zx rfl rfl (y2 rfl (zx rfl rfl (y21 rfl (zx rfl rfl (y14 (v := .inl (s3 38 9)) rfl (zx rfl rfl (y0 (zx rfl rfl (y7 (v := (s3 38 9) - 1) rfl (zx rfl rfl (y15 rfl (zx rfl rfl (y0 (zx rfl rfl (y19l (by decide))))))))))))))))) (zx rfl rfl (y2 rfl (zx rfl rfl (y2 rfl (zx rfl rfl (y0 (zx rfl rfl (y2 rfl (zx rfl rfl (y14 (v := .inl (s3 38 41)) rfl (zx rfl rfl (y0 (zx rfl rfl (y0 (zx rfl rfl (y18 (r := [.inr (.inr 38)]) rfl rfl rfl rfl rfl (fun r4 s4 => zx rfl rfl (y15 rfl (zx rfl rfl (y2 rfl (zx rfl rfl (y21 rfl (zx rfl rfl (y14 (v := .inl (s4 38 9)) rfl (zx rfl rfl (y0 (zx rfl rfl (y7 (v := (s4 38 9) - 1) rfl (zx rfl rfl (y15 rfl (zx rfl rfl (y0 (zx rfl rfl (y19l (by decide))))))))))))))))))))))))))))))))))))))))))))))))))))) (zx rfl rfl (y2 rfl (zx rfl rfl (y18 (r := []) rfl rfl rfl rfl rfl (fun r5 s5 => zx rfl rfl (y32 (zx rfl rfl (y12 (zx rfl rfl (y0 (zx rfl rfl (y19l (by decide))))))) (zx rfl rfl (y1 rfl (zx rfl rfl (y32 (zx rfl rfl (y2 rfl (zx rfl rfl (y21 rfl (zx rfl rfl (y14 (v := .inl (s5 38 9)) rfl (zx rfl rfl (y0 (zx rfl rfl (y7 (v := (s5 38 9) - 1) rfl (zx rfl rfl (y15 rfl (zx rfl rfl (y0 (zx rfl rfl (y19l (by decide))))))))))))))))) (zx rfl rfl (y2 rfl (zx rfl rfl (y2 rfl (zx rfl rfl (y0 (zx rfl rfl (y2 rfl (zx rfl rfl (y14 (v := .inl (s5 38 41)) rfl (zx rfl rfl (y0 (zx rfl rfl (y0 (zx rfl rfl (y18 (r := [.inr (.inr 38)]) rfl rfl rfl rfl rfl (fun r6 s6 => zx rfl rfl (y15 rfl (zx rfl rfl (y2 rfl (zx rfl rfl (y21 rfl (zx rfl rfl (y14 (v := .inl (s6 38 9)) rfl (zx rfl rfl (y0 (zx rfl rfl (y7 (v := (s6 38 9) - 1) rfl (zx rfl rfl (y15 rfl (zx rfl rfl (y0 (zx rfl rfl (y19l (by decide)))))))))))))))))))))))))))))))))))))))))))))))))))))))
set_option maxRecDepth 100000 in
theorem qX8_hasSignal_38_0 (d n : Nat) (σ : zS) : zexec zc_X8_hasSignal zu_X8_hasSignal (zM d) (n + 1) 0 [.inr (.inr 38)] σ = zexec zc_X8_hasSignal zu_X8_hasSignal (zM d) n 4 [.inr (.inr 38), .inl 0, .inl 0] σ := ze rfl rfl rfl (zx rfl rfl (y0 (zx rfl rfl (y4 rfl (zx rfl rfl (y0 (zx rfl rfl (y4 rfl (zxc rfl rfl rfl rfl)))))))))
set_option maxRecDepth 100000 in
theorem qX8_hasSignal_38 (d : Nat) (σ : zS) : zM (d + 1) mX8_hasSignal [.inr (.inr 38)] σ = zexec zc_X8_hasSignal zu_X8_hasSignal (zM d) (999999 + 1) 0 [.inr (.inr 38)] σ := zM_eq (zat_X8_hasSignal) rfl (Nat.le_of_ble_eq_true rfl)
set_option maxRecDepth 100000 in
theorem qX8_hasSignal_38_4 (d n : Nat) (σ : zS) (x1 x2 : Int32) : zexec zc_X8_hasSignal zu_X8_hasSignal (zM d) (n + 1) 4 [.inr (.inr 38), .inl x1, .inl x2] σ = if x2 < (σ 38 32) then (if x2 < 0 ∨ 201 ≤ x2.toNatClampNeg then (none) else (if (σ 50 x2.toNatClampNeg) = 8 then (if x1 = (σ 38 37) then (if x2 < 0 ∨ 201 ≤ x2.toNatClampNeg then (none) else (some (1, 1, wr σ 38 44 (σ 52 x2.toNatClampNeg)))) else (zexec zc_X8_hasSignal zu_X8_hasSignal (zM d) n 4 [.inr (.inr 38), .inl (x1 + 1), .inl (x2 + 1)] σ)) else (zexec zc_X8_hasSignal zu_X8_hasSignal (zM d) n 4 [.inr (.inr 38), .inl x1, .inl (x2 + 1)] σ))) else (some (1, 0, σ)) := ze rfl rfl rfl (zx rfl rfl (y1 rfl (zx rfl rfl (y2 rfl (zx rfl rfl (y14 (v := .inl (σ 38 32)) rfl (zx rfl rfl (y36 (zx rfl rfl (y2 rfl (zx rfl rfl (y14 (v := .inr (.inr 50)) rfl (zx rfl rfl (y1 rfl (zx rfl rfl (y16 (v := σ 50 x2.toNatClampNeg) rfl rfl (zx rfl rfl (y0 (zx rfl rfl (y35 (zx rfl rfl (y1 rfl (zx rfl rfl (y2 rfl (zx rfl rfl (y14 (v := .inl (σ 38 37)) rfl (zx rfl rfl (y35 (zx rfl rfl (y2 rfl (zx rfl rfl (y2 rfl (zx rfl rfl (y14 (v := .inr (.inr 52)) rfl (zx rfl rfl (y1 rfl (zx rfl rfl (y16 (v := σ 52 x2.toNatClampNeg) rfl rfl (zx rfl rfl (y15 rfl (zx rfl rfl (y0 (zx rfl rfl (y19l (by decide))))))))))))))))) (zx rfl rfl (y6 rfl rfl (zx rfl rfl (y6 rfl rfl (zx rfl rfl (y12 (zxc rfl rfl rfl rfl))))))))))))))) (zx rfl rfl (y12 (zx rfl rfl (y6 rfl rfl (zx rfl rfl (y12 (zxc rfl rfl rfl rfl))))))))))))))))))) (zx rfl rfl (y0 (zx rfl rfl (y19l (by decide)))))))))))))
end
section
-- words for the pure part
theorem wr_same (σ : zS) (c k : Nat) (v : Int32) : wr σ c k v c k = v := by simp [wr, zset, upd]
theorem wr_cell (σ : zS) {c d : Nat} (k : Nat) (v : Int32) (h : d ≠ c) : wr σ c k v d = σ d := by simp [wr, zset, h]
theorem wr_slot (σ : zS) (c : Nat) {k j : Nat} (v : Int32) (h : j ≠ k) : wr σ c k v c j = σ c j := by simp [wr, zset, upd, h]
theorem wr_at (σ : zS) (c k : Nat) (v : Int32) (j : Nat) : wr σ c k v c j = if j = k then v else σ c j := by simp [wr, zset, upd]
theorem wcp_cell (σ : zS) {c d e : Nat} (n : Nat) (h : e ≠ d) : wcp σ c d n e = σ e := by simp [wcp, zset, h]
theorem wcp_at (σ : zS) (c d n j : Nat) : wcp σ c d n d j = if j < n then σ c j else σ d j := by simp [wcp, zset, va_cpy]
theorem zbI_some (r : Int32) (s : zS) (k : Int32 → zS → Option zR) : zbI (some (1, r, s)) k = k r s := rfl
theorem zbV_some (r : Int32) (s : zS) (k : zS → Option zR) : zbV (some (0, r, s)) k = k s := rfl
/-- an index that is in -/
theorem z_in {i n : Nat} (h : i < n) (hn : n < 2 ^ 31) : ¬ (nI i < 0 ∨ n ≤ (nI i).toNatClampNeg) := nI_in h hn
theorem z_cl {i : Nat} (h : i < 2 ^ 31) : (nI i).toNatClampNeg = i := nI_clamp h
/-- numbers below 0 or not -/
theorem z_split (x : Int32) : x < 0 ∨ ∃ j : Nat, j < 2 ^ 31 ∧ x = nI j := by
  by_cases h : x < 0
  · exact Or.inl h
  · exact Or.inr (nI_of h)
/-- an event's number -/
theorem s_holds (d : Nat) (σ : zS) (i : Int32) : zM (d + 1) mX0_holds [.inr (.inr 24), .inl i] σ = some (1, if ¬ i < 0 ∧ i < σ 24 5 then 1 else 0, σ) := by
  rw [qX0_holds_24, qX0_holds_24_0]
  by_cases h1 : i < 0
  · simp [h1]
  · by_cases h2 : i < σ 24 5
    · simp [h1, h2]
    · simp [h1, h2]
theorem s_size (d : Nat) (σ : zS) : zM (d + 1) mX0_size [.inr (.inr 24)] σ = some (1, σ 24 5, σ) := by
  rw [qX0_size_24, qX0_size_24_0]
theorem e10 : ((1 : Int32) = 0) = False := eq_false (by decide)
theorem e01 : ((0 : Int32) = 1) = False := eq_false (by decide)
theorem e00 : ((0 : Int32) = 0) = True := eq_true rfl
/-- the KIND of an event, -1 where there is none -/
theorem s_kindAt (d : Nat) (σ : zS) (i : Int32) {n : Nat} (hn : σ 24 5 = nI n) (hn2 : n ≤ 200) : zM (d + 2) mX0_kindAt [.inr (.inr 24), .inl i] σ = some (1, if ¬ i < 0 ∧ i < nI n then σ 25 i.toNatClampNeg else -1, σ) := by
  rw [qX0_kindAt_24, qX0_kindAt_24_0, s_holds, zbI_some, hn]
  by_cases h : ¬ i < 0 ∧ i < nI n
  · have hc := h
    obtain ⟨h1, h2⟩ := h
    obtain ⟨j, hj, rfl⟩ := nI_of h1
    have hjn : j < n := (nI_ltI hj (by omega)).mp h2
    have h3 := z_in (i := j) (n := 200) (by omega) (by omega)
    simp only [eq_true hc, eq_false h3, e10, if_true, if_false]
  · simp only [eq_false h, e00, if_true, if_false]
/-- its REF -/
theorem s_refAt (d : Nat) (σ : zS) (i : Int32) {n : Nat} (hn : σ 24 5 = nI n) (hn2 : n ≤ 200) : zM (d + 2) mX0_refAt [.inr (.inr 24), .inl i] σ = some (1, if ¬ i < 0 ∧ i < nI n then σ 26 i.toNatClampNeg else 0, σ) := by
  rw [qX0_refAt_24, qX0_refAt_24_0, s_holds, zbI_some, hn]
  by_cases h : ¬ i < 0 ∧ i < nI n
  · have hc := h
    obtain ⟨h1, h2⟩ := h
    obtain ⟨j, hj, rfl⟩ := nI_of h1
    have hjn : j < n := (nI_ltI hj (by omega)).mp h2
    have h3 := z_in (i := j) (n := 200) (by omega) (by omega)
    simp only [eq_true hc, eq_false h3, e10, if_true, if_false]
  · simp only [eq_false h, e00, if_true, if_false]
/-- its VALUE -/
theorem s_valueAt (d : Nat) (σ : zS) (i : Int32) {n : Nat} (hn : σ 24 5 = nI n) (hn2 : n ≤ 200) : zM (d + 2) mX0_valueAt [.inr (.inr 24), .inl i] σ = some (1, if ¬ i < 0 ∧ i < nI n then σ 27 i.toNatClampNeg else 0, σ) := by
  rw [qX0_valueAt_24, qX0_valueAt_24_0, s_holds, zbI_some, hn]
  by_cases h : ¬ i < 0 ∧ i < nI n
  · have hc := h
    obtain ⟨h1, h2⟩ := h
    obtain ⟨j, hj, rfl⟩ := nI_of h1
    have hjn : j < n := (nI_ltI hj (by omega)).mp h2
    have h3 := z_in (i := j) (n := 200) (by omega) (by omega)
    simp only [eq_true hc, eq_false h3, e10, if_true, if_false]
  · simp only [eq_false h, e00, if_true, if_false]
end
section
-- String's own methods on the constants
def RJ0 : String := "java/lang/String"
def RJ1 : String := "java/lang/StringLatin1"
def RJ3 : String := "jdk/internal/util/Preconditions"
abbrev cJ0_length_8abf5 : ByteArray := prog_17_method_54_code
def yJ0_length_8abf5 : MethodName := ⟨RJ0, "length", "()I"⟩
abbrev cJ0_charAt_5068e : ByteArray := prog_17_method_56_code
def yJ0_charAt_5068e : MethodName := ⟨RJ0, "charAt", "(I)C"⟩
abbrev cJ0_indexOf_0f7a4 : ByteArray := prog_17_method_79_code
def yJ0_indexOf_0f7a4 : MethodName := ⟨RJ0, "indexOf", "(I)I"⟩
abbrev cJ0_indexOf_7cf53 : ByteArray := prog_17_method_80_code
def yJ0_indexOf_7cf53 : MethodName := ⟨RJ0, "indexOf", "(II)I"⟩
abbrev cJ0_coder_7d493 : ByteArray := prog_17_method_152_code
def yJ0_coder_7d493 : MethodName := ⟨RJ0, "coder", "()B"⟩
abbrev cJ0_isLatin1_aae02 : ByteArray := prog_17_method_154_code
def yJ0_isLatin1_aae02 : MethodName := ⟨RJ0, "isLatin1", "()Z"⟩
abbrev cJ0_checkIndex_df160 : ByteArray := prog_17_method_155_code
def yJ0_checkIndex_df160 : MethodName := ⟨RJ0, "checkIndex", "(II)V"⟩
abbrev cJ1_charAt_3b067 : ByteArray := prog_18_method_2_code
def yJ1_charAt_3b067 : MethodName := ⟨RJ1, "charAt", "([BI)C"⟩
abbrev cJ1_canEncode_9a6ad : ByteArray := prog_18_method_4_code
def yJ1_canEncode_9a6ad : MethodName := ⟨RJ1, "canEncode", "(I)Z"⟩
abbrev cJ1_indexOf_4cfef : ByteArray := prog_18_method_22_code
def yJ1_indexOf_4cfef : MethodName := ⟨RJ1, "indexOf", "([BIII)I"⟩
abbrev cJ1_indexOfChar_4cfef : ByteArray := prog_18_method_23_code
def yJ1_indexOfChar_4cfef : MethodName := ⟨RJ1, "indexOfChar", "([BIII)I"⟩
abbrev cJ3_checkIndex_8e157 : ByteArray := prog_23_method_11_code
def yJ3_checkIndex_8e157 : MethodName := ⟨RJ3, "checkIndex", "(IILjava/util/function/BiFunction;)I"⟩
theorem dJ0_length_8abf5_0 : decode cJ0_length_8abf5 0 = .ok (.aload_n 0, 1) := by decide +kernel
theorem dJ0_length_8abf5_1 : decode cJ0_length_8abf5 1 = .ok (.getfield 9, 3) := by decide +kernel
theorem dJ0_length_8abf5_4 : decode cJ0_length_8abf5 4 = .ok (.arraylength, 1) := by decide +kernel
theorem dJ0_length_8abf5_5 : decode cJ0_length_8abf5 5 = .ok (.aload_n 0, 1) := by decide +kernel
theorem dJ0_length_8abf5_6 : decode cJ0_length_8abf5 6 = .ok (.invokevirtual 335, 3) := by decide +kernel
theorem dJ0_length_8abf5_9 : decode cJ0_length_8abf5 9 = .ok (.ishr, 1) := by decide +kernel
theorem dJ0_length_8abf5_10 : decode cJ0_length_8abf5 10 = .ok (.ireturn, 1) := by decide +kernel
theorem dJ0_charAt_5068e_0 : decode cJ0_charAt_5068e 0 = .ok (.aload_n 0, 1) := by decide +kernel
theorem dJ0_charAt_5068e_1 : decode cJ0_charAt_5068e 1 = .ok (.invokevirtual 492, 3) := by decide +kernel
theorem dJ0_charAt_5068e_4 : decode cJ0_charAt_5068e 4 = .ok (.ifCond .eq 12, 3) := by decide +kernel
theorem dJ0_charAt_5068e_7 : decode cJ0_charAt_5068e 7 = .ok (.aload_n 0, 1) := by decide +kernel
theorem dJ0_charAt_5068e_8 : decode cJ0_charAt_5068e 8 = .ok (.getfield 9, 3) := by decide +kernel
theorem dJ0_charAt_5068e_11 : decode cJ0_charAt_5068e 11 = .ok (.iload_n 1, 1) := by decide +kernel
theorem dJ0_charAt_5068e_12 : decode cJ0_charAt_5068e 12 = .ok (.invokestatic 495, 3) := by decide +kernel
theorem dJ0_charAt_5068e_15 : decode cJ0_charAt_5068e 15 = .ok (.ireturn, 1) := by decide +kernel
theorem dJ0_charAt_5068e_16 : decode cJ0_charAt_5068e 16 = .ok (.aload_n 0, 1) := by decide +kernel
theorem dJ0_charAt_5068e_17 : decode cJ0_charAt_5068e 17 = .ok (.getfield 9, 3) := by decide +kernel
theorem dJ0_charAt_5068e_20 : decode cJ0_charAt_5068e 20 = .ok (.iload_n 1, 1) := by decide +kernel
theorem dJ0_charAt_5068e_21 : decode cJ0_charAt_5068e 21 = .ok (.invokestatic 498, 3) := by decide +kernel
theorem dJ0_charAt_5068e_24 : decode cJ0_charAt_5068e 24 = .ok (.ireturn, 1) := by decide +kernel
theorem dJ0_indexOf_0f7a4_0 : decode cJ0_indexOf_0f7a4 0 = .ok (.aload_n 0, 1) := by decide +kernel
theorem dJ0_indexOf_0f7a4_1 : decode cJ0_indexOf_0f7a4 1 = .ok (.iload_n 1, 1) := by decide +kernel
theorem dJ0_indexOf_0f7a4_2 : decode cJ0_indexOf_0f7a4 2 = .ok (.iconst 0, 1) := by decide +kernel
theorem dJ0_indexOf_0f7a4_3 : decode cJ0_indexOf_0f7a4 3 = .ok (.invokevirtual 633, 3) := by decide +kernel
theorem dJ0_indexOf_0f7a4_6 : decode cJ0_indexOf_0f7a4 6 = .ok (.ireturn, 1) := by decide +kernel
theorem dJ0_indexOf_7cf53_0 : decode cJ0_indexOf_7cf53 0 = .ok (.aload_n 0, 1) := by decide +kernel
theorem dJ0_indexOf_7cf53_1 : decode cJ0_indexOf_7cf53 1 = .ok (.invokevirtual 492, 3) := by decide +kernel
theorem dJ0_indexOf_7cf53_4 : decode cJ0_indexOf_7cf53 4 = .ok (.ifCond .eq 19, 3) := by decide +kernel
theorem dJ0_indexOf_7cf53_7 : decode cJ0_indexOf_7cf53 7 = .ok (.aload_n 0, 1) := by decide +kernel
theorem dJ0_indexOf_7cf53_8 : decode cJ0_indexOf_7cf53 8 = .ok (.getfield 9, 3) := by decide +kernel
theorem dJ0_indexOf_7cf53_11 : decode cJ0_indexOf_7cf53 11 = .ok (.iload_n 1, 1) := by decide +kernel
theorem dJ0_indexOf_7cf53_12 : decode cJ0_indexOf_7cf53 12 = .ok (.iload_n 2, 1) := by decide +kernel
theorem dJ0_indexOf_7cf53_13 : decode cJ0_indexOf_7cf53 13 = .ok (.aload_n 0, 1) := by decide +kernel
theorem dJ0_indexOf_7cf53_14 : decode cJ0_indexOf_7cf53 14 = .ok (.invokevirtual 505, 3) := by decide +kernel
theorem dJ0_indexOf_7cf53_17 : decode cJ0_indexOf_7cf53 17 = .ok (.invokestatic 637, 3) := by decide +kernel
theorem dJ0_indexOf_7cf53_20 : decode cJ0_indexOf_7cf53 20 = .ok (.goto 16, 3) := by decide +kernel
theorem dJ0_indexOf_7cf53_23 : decode cJ0_indexOf_7cf53 23 = .ok (.aload_n 0, 1) := by decide +kernel
theorem dJ0_indexOf_7cf53_24 : decode cJ0_indexOf_7cf53 24 = .ok (.getfield 9, 3) := by decide +kernel
theorem dJ0_indexOf_7cf53_27 : decode cJ0_indexOf_7cf53 27 = .ok (.iload_n 1, 1) := by decide +kernel
theorem dJ0_indexOf_7cf53_28 : decode cJ0_indexOf_7cf53 28 = .ok (.iload_n 2, 1) := by decide +kernel
theorem dJ0_indexOf_7cf53_29 : decode cJ0_indexOf_7cf53 29 = .ok (.aload_n 0, 1) := by decide +kernel
theorem dJ0_indexOf_7cf53_30 : decode cJ0_indexOf_7cf53 30 = .ok (.invokevirtual 505, 3) := by decide +kernel
theorem dJ0_indexOf_7cf53_33 : decode cJ0_indexOf_7cf53 33 = .ok (.invokestatic 640, 3) := by decide +kernel
theorem dJ0_indexOf_7cf53_36 : decode cJ0_indexOf_7cf53 36 = .ok (.ireturn, 1) := by decide +kernel
theorem dJ0_coder_7d493_0 : decode cJ0_coder_7d493 0 = .ok (.getstatic 38, 3) := by decide +kernel
theorem dJ0_coder_7d493_3 : decode cJ0_coder_7d493 3 = .ok (.ifCond .eq 10, 3) := by decide +kernel
theorem dJ0_coder_7d493_6 : decode cJ0_coder_7d493 6 = .ok (.aload_n 0, 1) := by decide +kernel
theorem dJ0_coder_7d493_7 : decode cJ0_coder_7d493 7 = .ok (.getfield 15, 3) := by decide +kernel
theorem dJ0_coder_7d493_10 : decode cJ0_coder_7d493 10 = .ok (.goto 4, 3) := by decide +kernel
theorem dJ0_coder_7d493_13 : decode cJ0_coder_7d493 13 = .ok (.iconst 1, 1) := by decide +kernel
theorem dJ0_coder_7d493_14 : decode cJ0_coder_7d493 14 = .ok (.ireturn, 1) := by decide +kernel
theorem dJ0_isLatin1_aae02_0 : decode cJ0_isLatin1_aae02 0 = .ok (.getstatic 38, 3) := by decide +kernel
theorem dJ0_isLatin1_aae02_3 : decode cJ0_isLatin1_aae02 3 = .ok (.ifCond .eq 14, 3) := by decide +kernel
theorem dJ0_isLatin1_aae02_6 : decode cJ0_isLatin1_aae02 6 = .ok (.aload_n 0, 1) := by decide +kernel
theorem dJ0_isLatin1_aae02_7 : decode cJ0_isLatin1_aae02 7 = .ok (.getfield 15, 3) := by decide +kernel
theorem dJ0_isLatin1_aae02_10 : decode cJ0_isLatin1_aae02 10 = .ok (.ifCond .ne 7, 3) := by decide +kernel
theorem dJ0_isLatin1_aae02_13 : decode cJ0_isLatin1_aae02 13 = .ok (.iconst 1, 1) := by decide +kernel
theorem dJ0_isLatin1_aae02_14 : decode cJ0_isLatin1_aae02 14 = .ok (.goto 4, 3) := by decide +kernel
theorem dJ0_isLatin1_aae02_17 : decode cJ0_isLatin1_aae02 17 = .ok (.iconst 0, 1) := by decide +kernel
theorem dJ0_isLatin1_aae02_18 : decode cJ0_isLatin1_aae02 18 = .ok (.ireturn, 1) := by decide +kernel
theorem dJ0_checkIndex_df160_0 : decode cJ0_checkIndex_df160 0 = .ok (.iload_n 0, 1) := by decide +kernel
theorem dJ0_checkIndex_df160_1 : decode cJ0_checkIndex_df160 1 = .ok (.iload_n 1, 1) := by decide +kernel
theorem dJ0_checkIndex_df160_2 : decode cJ0_checkIndex_df160 2 = .ok (.getstatic 1053, 3) := by decide +kernel
theorem dJ0_checkIndex_df160_5 : decode cJ0_checkIndex_df160 5 = .ok (.invokestatic 1059, 3) := by decide +kernel
theorem dJ0_checkIndex_df160_8 : decode cJ0_checkIndex_df160 8 = .ok (.pop, 1) := by decide +kernel
theorem dJ0_checkIndex_df160_9 : decode cJ0_checkIndex_df160 9 = .ok (.return_, 1) := by decide +kernel
theorem dJ1_charAt_3b067_0 : decode cJ1_charAt_3b067 0 = .ok (.iload_n 1, 1) := by decide +kernel
theorem dJ1_charAt_3b067_1 : decode cJ1_charAt_3b067 1 = .ok (.aload_n 0, 1) := by decide +kernel
theorem dJ1_charAt_3b067_2 : decode cJ1_charAt_3b067 2 = .ok (.arraylength, 1) := by decide +kernel
theorem dJ1_charAt_3b067_3 : decode cJ1_charAt_3b067 3 = .ok (.invokestatic 9, 3) := by decide +kernel
theorem dJ1_charAt_3b067_6 : decode cJ1_charAt_3b067 6 = .ok (.aload_n 0, 1) := by decide +kernel
theorem dJ1_charAt_3b067_7 : decode cJ1_charAt_3b067 7 = .ok (.iload_n 1, 1) := by decide +kernel
theorem dJ1_charAt_3b067_8 : decode cJ1_charAt_3b067 8 = .ok (.baload, 1) := by decide +kernel
theorem dJ1_charAt_3b067_9 : decode cJ1_charAt_3b067 9 = .ok (.sipush 255, 3) := by decide +kernel
theorem dJ1_charAt_3b067_12 : decode cJ1_charAt_3b067 12 = .ok (.iand, 1) := by decide +kernel
theorem dJ1_charAt_3b067_13 : decode cJ1_charAt_3b067 13 = .ok (.i2c, 1) := by decide +kernel
theorem dJ1_charAt_3b067_14 : decode cJ1_charAt_3b067 14 = .ok (.ireturn, 1) := by decide +kernel
theorem dJ1_canEncode_9a6ad_0 : decode cJ1_canEncode_9a6ad 0 = .ok (.iload_n 0, 1) := by decide +kernel
theorem dJ1_canEncode_9a6ad_1 : decode cJ1_canEncode_9a6ad 1 = .ok (.ifCond .lt 14, 3) := by decide +kernel
theorem dJ1_canEncode_9a6ad_4 : decode cJ1_canEncode_9a6ad 4 = .ok (.iload_n 0, 1) := by decide +kernel
theorem dJ1_canEncode_9a6ad_5 : decode cJ1_canEncode_9a6ad 5 = .ok (.sipush 255, 3) := by decide +kernel
theorem dJ1_canEncode_9a6ad_8 : decode cJ1_canEncode_9a6ad 8 = .ok (.if_icmp .gt 7, 3) := by decide +kernel
theorem dJ1_canEncode_9a6ad_11 : decode cJ1_canEncode_9a6ad 11 = .ok (.iconst 1, 1) := by decide +kernel
theorem dJ1_canEncode_9a6ad_12 : decode cJ1_canEncode_9a6ad 12 = .ok (.goto 4, 3) := by decide +kernel
theorem dJ1_canEncode_9a6ad_15 : decode cJ1_canEncode_9a6ad 15 = .ok (.iconst 0, 1) := by decide +kernel
theorem dJ1_canEncode_9a6ad_16 : decode cJ1_canEncode_9a6ad 16 = .ok (.ireturn, 1) := by decide +kernel
theorem dJ1_indexOf_4cfef_0 : decode cJ1_indexOf_4cfef 0 = .ok (.iload_n 1, 1) := by decide +kernel
theorem dJ1_indexOf_4cfef_1 : decode cJ1_indexOf_4cfef 1 = .ok (.invokestatic 88, 3) := by decide +kernel
theorem dJ1_indexOf_4cfef_4 : decode cJ1_indexOf_4cfef 4 = .ok (.ifCond .ne 5, 3) := by decide +kernel
theorem dJ1_indexOf_4cfef_7 : decode cJ1_indexOf_4cfef 7 = .ok (.iconst (-1), 1) := by decide +kernel
theorem dJ1_indexOf_4cfef_8 : decode cJ1_indexOf_4cfef 8 = .ok (.ireturn, 1) := by decide +kernel
theorem dJ1_indexOf_4cfef_9 : decode cJ1_indexOf_4cfef 9 = .ok (.iload_n 2, 1) := by decide +kernel
theorem dJ1_indexOf_4cfef_10 : decode cJ1_indexOf_4cfef 10 = .ok (.iconst 0, 1) := by decide +kernel
theorem dJ1_indexOf_4cfef_11 : decode cJ1_indexOf_4cfef 11 = .ok (.invokestatic 92, 3) := by decide +kernel
theorem dJ1_indexOf_4cfef_14 : decode cJ1_indexOf_4cfef 14 = .ok (.istore_n 2, 1) := by decide +kernel
theorem dJ1_indexOf_4cfef_15 : decode cJ1_indexOf_4cfef 15 = .ok (.iload_n 3, 1) := by decide +kernel
theorem dJ1_indexOf_4cfef_16 : decode cJ1_indexOf_4cfef 16 = .ok (.aload_n 0, 1) := by decide +kernel
theorem dJ1_indexOf_4cfef_17 : decode cJ1_indexOf_4cfef 17 = .ok (.arraylength, 1) := by decide +kernel
theorem dJ1_indexOf_4cfef_18 : decode cJ1_indexOf_4cfef 18 = .ok (.invokestatic 38, 3) := by decide +kernel
theorem dJ1_indexOf_4cfef_21 : decode cJ1_indexOf_4cfef 21 = .ok (.istore_n 3, 1) := by decide +kernel
theorem dJ1_indexOf_4cfef_22 : decode cJ1_indexOf_4cfef 22 = .ok (.iload_n 2, 1) := by decide +kernel
theorem dJ1_indexOf_4cfef_23 : decode cJ1_indexOf_4cfef 23 = .ok (.iload_n 3, 1) := by decide +kernel
theorem dJ1_indexOf_4cfef_24 : decode cJ1_indexOf_4cfef 24 = .ok (.if_icmp .lt 5, 3) := by decide +kernel
theorem dJ1_indexOf_4cfef_27 : decode cJ1_indexOf_4cfef 27 = .ok (.iconst (-1), 1) := by decide +kernel
theorem dJ1_indexOf_4cfef_28 : decode cJ1_indexOf_4cfef 28 = .ok (.ireturn, 1) := by decide +kernel
theorem dJ1_indexOf_4cfef_29 : decode cJ1_indexOf_4cfef 29 = .ok (.aload_n 0, 1) := by decide +kernel
theorem dJ1_indexOf_4cfef_30 : decode cJ1_indexOf_4cfef 30 = .ok (.iload_n 1, 1) := by decide +kernel
theorem dJ1_indexOf_4cfef_31 : decode cJ1_indexOf_4cfef 31 = .ok (.iload_n 2, 1) := by decide +kernel
theorem dJ1_indexOf_4cfef_32 : decode cJ1_indexOf_4cfef 32 = .ok (.iload_n 3, 1) := by decide +kernel
theorem dJ1_indexOf_4cfef_33 : decode cJ1_indexOf_4cfef 33 = .ok (.invokestatic 95, 3) := by decide +kernel
theorem dJ1_indexOf_4cfef_36 : decode cJ1_indexOf_4cfef 36 = .ok (.ireturn, 1) := by decide +kernel
theorem dJ1_indexOfChar_4cfef_0 : decode cJ1_indexOfChar_4cfef 0 = .ok (.iload_n 1, 1) := by decide +kernel
theorem dJ1_indexOfChar_4cfef_1 : decode cJ1_indexOfChar_4cfef 1 = .ok (.i2b, 1) := by decide +kernel
theorem dJ1_indexOfChar_4cfef_2 : decode cJ1_indexOfChar_4cfef 2 = .ok (.istore 4, 2) := by decide +kernel
theorem dJ1_indexOfChar_4cfef_4 : decode cJ1_indexOfChar_4cfef 4 = .ok (.iload_n 2, 1) := by decide +kernel
theorem dJ1_indexOfChar_4cfef_5 : decode cJ1_indexOfChar_4cfef 5 = .ok (.istore 5, 2) := by decide +kernel
theorem dJ1_indexOfChar_4cfef_7 : decode cJ1_indexOfChar_4cfef 7 = .ok (.iload 5, 2) := by decide +kernel
theorem dJ1_indexOfChar_4cfef_9 : decode cJ1_indexOfChar_4cfef 9 = .ok (.iload_n 3, 1) := by decide +kernel
theorem dJ1_indexOfChar_4cfef_10 : decode cJ1_indexOfChar_4cfef 10 = .ok (.if_icmp .ge 21, 3) := by decide +kernel
theorem dJ1_indexOfChar_4cfef_13 : decode cJ1_indexOfChar_4cfef 13 = .ok (.aload_n 0, 1) := by decide +kernel
theorem dJ1_indexOfChar_4cfef_14 : decode cJ1_indexOfChar_4cfef 14 = .ok (.iload 5, 2) := by decide +kernel
theorem dJ1_indexOfChar_4cfef_16 : decode cJ1_indexOfChar_4cfef 16 = .ok (.baload, 1) := by decide +kernel
theorem dJ1_indexOfChar_4cfef_17 : decode cJ1_indexOfChar_4cfef 17 = .ok (.iload 4, 2) := by decide +kernel
theorem dJ1_indexOfChar_4cfef_19 : decode cJ1_indexOfChar_4cfef 19 = .ok (.if_icmp .ne 6, 3) := by decide +kernel
theorem dJ1_indexOfChar_4cfef_22 : decode cJ1_indexOfChar_4cfef 22 = .ok (.iload 5, 2) := by decide +kernel
theorem dJ1_indexOfChar_4cfef_24 : decode cJ1_indexOfChar_4cfef 24 = .ok (.ireturn, 1) := by decide +kernel
theorem dJ1_indexOfChar_4cfef_25 : decode cJ1_indexOfChar_4cfef 25 = .ok (.iinc 5 1, 3) := by decide +kernel
theorem dJ1_indexOfChar_4cfef_28 : decode cJ1_indexOfChar_4cfef 28 = .ok (.goto (-21), 3) := by decide +kernel
theorem dJ1_indexOfChar_4cfef_31 : decode cJ1_indexOfChar_4cfef 31 = .ok (.iconst (-1), 1) := by decide +kernel
theorem dJ1_indexOfChar_4cfef_32 : decode cJ1_indexOfChar_4cfef 32 = .ok (.ireturn, 1) := by decide +kernel
theorem dJ3_checkIndex_8e157_0 : decode cJ3_checkIndex_8e157 0 = .ok (.iload_n 0, 1) := by decide +kernel
theorem dJ3_checkIndex_8e157_1 : decode cJ3_checkIndex_8e157 1 = .ok (.ifCond .lt 8, 3) := by decide +kernel
theorem dJ3_checkIndex_8e157_4 : decode cJ3_checkIndex_8e157 4 = .ok (.iload_n 0, 1) := by decide +kernel
theorem dJ3_checkIndex_8e157_5 : decode cJ3_checkIndex_8e157 5 = .ok (.iload_n 1, 1) := by decide +kernel
theorem dJ3_checkIndex_8e157_6 : decode cJ3_checkIndex_8e157 6 = .ok (.if_icmp .lt 10, 3) := by decide +kernel
theorem dJ3_checkIndex_8e157_9 : decode cJ3_checkIndex_8e157 9 = .ok (.aload_n 2, 1) := by decide +kernel
theorem dJ3_checkIndex_8e157_10 : decode cJ3_checkIndex_8e157 10 = .ok (.iload_n 0, 1) := by decide +kernel
theorem dJ3_checkIndex_8e157_11 : decode cJ3_checkIndex_8e157 11 = .ok (.iload_n 1, 1) := by decide +kernel
theorem dJ3_checkIndex_8e157_12 : decode cJ3_checkIndex_8e157 12 = .ok (.invokestatic 95, 3) := by decide +kernel
theorem dJ3_checkIndex_8e157_15 : decode cJ3_checkIndex_8e157 15 = .ok (.athrow, 1) := by decide +kernel
theorem dJ3_checkIndex_8e157_16 : decode cJ3_checkIndex_8e157 16 = .ok (.iload_n 0, 1) := by decide +kernel
theorem dJ3_checkIndex_8e157_17 : decode cJ3_checkIndex_8e157 17 = .ok (.ireturn, 1) := by decide +kernel
/-- what String's methods need -/
def zJ (a adV : Nat → Nat) (U : State) : Prop := vk_S 10 zlens zbyts (fun i => a (1000 + i)) adV (fun _ => False) U U.heap ∧ va_Z RJ0 "COMPACT_STRINGS" "Z" (.int 1) (fun _ => False) U U.heap ∧ va_Zq RJ3 "SIOOBE_FORMATTER" "Ljava/util/function/BiFunction;" (fun _ => False) U U.heap
theorem zj_w : zin 483 (.fieldLink RJ0 38 RJ0 "COMPACT_STRINGS" "Z") = true ∧ zin 1378 (.fieldLink RJ0 15 RJ0 "coder" "B") = true ∧ zin 1377 (.fieldLink RJ0 9 RJ0 "value" "[B") = true ∧ zin 479 (.methodLink RJ0 335 yJ0_coder_7d493) = true ∧ zin 480 (.instanceMethod yJ0_coder_7d493) = true ∧ zin 481 (.selects RJ0 yJ0_coder_7d493 yJ0_coder_7d493) = true ∧ zin 489 (.methodLink RJ0 492 yJ0_isLatin1_aae02) = true ∧ zin 490 (.instanceMethod yJ0_isLatin1_aae02) = true ∧ zin 491 (.selects RJ0 yJ0_isLatin1_aae02 yJ0_isLatin1_aae02) = true ∧ zin 86 (.initialized RJ0) = true := by decide +kernel
set_option maxRecDepth 100000 in
theorem zcJ_coder : lw_tbl[482]? = some (.code yJ0_coder_7d493 cJ0_coder_7d493 1 (some .byte)) := rfl
theorem cJ_coder (l : Launch) (a adV : Nat → Nat) {i : Nat} (hi : i < 10) : Met l yJ0_coder_7d493 (zws yJ0_coder_7d493 cJ0_coder_7d493 1 (some .byte)) { frames := 1, cells := 0, slots := 0, locals := 20 } (va_Pc [.ref (a (1000 + i))] (zJ a adV)) (QcRead 0) 0 0 (fun _ => False) := by
  refine Met.ofW (cc := cJ0_coder_7d493) (maxL := 1) (ret := some .byte) (by decide) rfl ?_
  intro p e s m args below meth c s₁ B hml hv
  obtain ⟨rfl, hE, hZ, hQ⟩ := hv
  have hx := B.exec
  have hb := B.bytes
  have hr := B.returns
  have hts := atoms_spec (ws := zws yJ0_coder_7d493 cJ0_coder_7d493 1 (some .byte)) B.pre
  have htb : ∀ w ∈ zTB, w.before ([.ref (a (1000 + i))] : List Value).toArray s = true := fun w h => hts w (List.mem_cons_of_mem _ h)
  have hown : s.vm.findClass RJ0 = some m.cls := findClass_of_methodNamed B.named
  have hlocks := B.notSynchronized
  have hS : va_S (fun _ => False) s.heap s.heap [] := va_S.rf
  obtain ⟨w1, w2, w3, w4, w5, w6, w7, w8, w9, w10⟩ := zj_w
  have hl := lv_entry ([.ref (a (1000 + i))]) (n := 1) (Nat.le_of_ble_eq_true rfl)
  rw [lg_entry_eq]
  generalize (lg_sl ([.ref (a (1000 + i))]) ++ List.replicate (1 - (lg_sl ([.ref (a (1000 + i))])).length) Slot.unset).toArray = ls at hl ⊢
  have hl : lv_has ls 1 [(0, .ref (a (1000 + i)))] := hl
  refine va_gets hx hb hZ hS hown (htb _ (zin_mem w1)) (fun _ h => h) dJ0_coder_7d493_0 ?_
  refine lv_if_eq (tgt := 13) hx hb dJ0_coder_7d493_3 (by decide) (fun h => absurd h (by decide)) (fun _ => ?_)
  refine lv_aload_n hx hb dJ0_coder_7d493_6 rfl (lv_at hl 0 rfl) ?_
  refine vk_getf hx hb (hE.1 i hi).2.1 hS hown (htb _ (zin_mem w2)) (fun _ h => h) dJ0_coder_7d493_7 ?_
  refine lv_goto (tgt := 14) hx hb dJ0_coder_7d493_10 (by decide) ?_
  exact W.zret (v := 0) (ty := .byte) hx hb hr (by decide) (fun t ht hW => ⟨rfl, ht⟩) hS.2.2 dJ0_coder_7d493_14
theorem cJ_isLatin1 (l : Launch) (a adV : Nat → Nat) {i : Nat} (hi : i < 10) : Met l yJ0_isLatin1_aae02 (zws yJ0_isLatin1_aae02 cJ0_isLatin1_aae02 1 (some .boolean)) { frames := 1, cells := 0, slots := 0, locals := 20 } (va_Pc [.ref (a (1000 + i))] (zJ a adV)) (QcRead 1) 0 0 (fun _ => False) := by
  refine Met.ofW (cc := cJ0_isLatin1_aae02) (maxL := 1) (ret := some .boolean) (by decide) rfl ?_
  intro p e s m args below meth c s₁ B hml hv
  obtain ⟨rfl, hE, hZ, hQ⟩ := hv
  have hx := B.exec
  have hb := B.bytes
  have hr := B.returns
  have hts := atoms_spec (ws := zws yJ0_isLatin1_aae02 cJ0_isLatin1_aae02 1 (some .boolean)) B.pre
  have htb : ∀ w ∈ zTB, w.before ([.ref (a (1000 + i))] : List Value).toArray s = true := fun w h => hts w (List.mem_cons_of_mem _ h)
  have hown : s.vm.findClass RJ0 = some m.cls := findClass_of_methodNamed B.named
  have hlocks := B.notSynchronized
  have hS : va_S (fun _ => False) s.heap s.heap [] := va_S.rf
  obtain ⟨w1, w2, w3, w4, w5, w6, w7, w8, w9, w10⟩ := zj_w
  have hl := lv_entry ([.ref (a (1000 + i))]) (n := 1) (Nat.le_of_ble_eq_true rfl)
  rw [lg_entry_eq]
  generalize (lg_sl ([.ref (a (1000 + i))]) ++ List.replicate (1 - (lg_sl ([.ref (a (1000 + i))])).length) Slot.unset).toArray = ls at hl ⊢
  have hl : lv_has ls 1 [(0, .ref (a (1000 + i)))] := hl
  refine va_gets hx hb hZ hS hown (htb _ (zin_mem w1)) (fun _ h => h) dJ0_isLatin1_aae02_0 ?_
  refine lv_if_eq (tgt := 17) hx hb dJ0_isLatin1_aae02_3 (by decide) (fun h => absurd h (by decide)) (fun _ => ?_)
  refine lv_aload_n hx hb dJ0_isLatin1_aae02_6 rfl (lv_at hl 0 rfl) ?_
  refine vk_getf hx hb (hE.1 i hi).2.1 hS hown (htb _ (zin_mem w2)) (fun _ h => h) dJ0_isLatin1_aae02_7 ?_
  refine lv_if_ne (tgt := 17) hx hb dJ0_isLatin1_aae02_10 (by decide) (fun h => absurd rfl h) (fun _ => ?_)
  refine lv_iconst (v := 1) hx hb dJ0_isLatin1_aae02_13 (by decide) ?_
  refine lv_goto (tgt := 18) hx hb dJ0_isLatin1_aae02_14 (by decide) ?_
  exact W.zret (v := 1) (ty := .boolean) hx hb hr (by decide) (fun t ht hW => ⟨rfl, ht⟩) hS.2.2 dJ0_isLatin1_aae02_18
theorem zJ.moved {a adV : Nat → Nat} {s U : State} (hW : s.WarmedH U.vm) (hU : U.heap = s.heap) (h : zJ a adV s) : zJ a adV U := by
  refine ⟨?_, ?_, ?_⟩
  · rw [hU]; exact h.1.moved hW.alike
  · rw [hU]; exact h.2.1.moved hW.alike
  · rw [hU]; exact h.2.2.moved hW.alike
theorem zJ.blind {a adV : Nat → Nat} {av : List Value} : FrameBlind (va_Pc av (zJ a adV)) := by
  intro A U g mk h
  exact ⟨h.1, h.2.1.moved (Vm.Alike.refl U.vm), h.2.2.1.moved (Vm.Alike.refl U.vm), h.2.2.2.moved (Vm.Alike.refl U.vm)⟩
theorem cJ_length (l : Launch) (a adV : Nat → Nat) {i : Nat} (hi : i < 10) : Met l yJ0_length_8abf5 (zws yJ0_length_8abf5 cJ0_length_8abf5 1 (some .int)) { frames := 3, cells := 0, slots := 0, locals := 60 } (va_Pc [.ref (a (1000 + i))] (zJ a adV)) (QcRead (Int32.ofNat (zlens.getD i 0))) 0 0 (fun _ => False) := by
  refine Met.ofW (cc := cJ0_length_8abf5) (maxL := 1) (ret := some .int) (by decide) rfl ?_
  intro p e s m args below meth c s₁ B hml hv
  obtain ⟨rfl, hJ⟩ := hv
  obtain ⟨hE, hZ, hQ⟩ := id hJ
  have hx := B.exec
  have hb := B.bytes
  have hr := B.returns
  have hts := atoms_spec (ws := zws yJ0_length_8abf5 cJ0_length_8abf5 1 (some .int)) B.pre
  have htb : ∀ w ∈ zTB, w.before ([.ref (a (1000 + i))] : List Value).toArray s = true := fun w h => hts w (List.mem_cons_of_mem _ h)
  have hown : s.vm.findClass RJ0 = some m.cls := findClass_of_methodNamed B.named
  have hlocks := B.notSynchronized
  have hS : va_S (fun _ => False) s.heap s.heap [] := va_S.rf
  obtain ⟨w1, w2, w3, w4, w5, w6, w7, w8, w9, w10⟩ := zj_w
  have hl := lv_entry ([.ref (a (1000 + i))]) (n := 1) (Nat.le_of_ble_eq_true rfl)
  rw [lg_entry_eq]
  generalize (lg_sl ([.ref (a (1000 + i))]) ++ List.replicate (1 - (lg_sl ([.ref (a (1000 + i))])).length) Slot.unset).toArray = ls at hl ⊢
  have hl : lv_has ls 1 [(0, .ref (a (1000 + i)))] := hl
  refine lv_aload_n hx hb dJ0_length_8abf5_0 rfl (lv_at hl 0 rfl) ?_
  refine vk_getf hx hb (hE.1 i hi).2.2.1 hS hown (htb _ (zin_mem w3)) (fun _ h => h) dJ0_length_8abf5_1 ?_
  refine va_tlen hx hb (hE.1 i hi).2.2.2 hS rfl dJ0_length_8abf5_4 ?_
  refine lv_aload_n hx hb dJ0_length_8abf5_5 rfl (lv_at hl 0 rfl) ?_
  have hcw : CallW (headSpec (zws yJ0_length_8abf5 cJ0_length_8abf5 1 (some .int)) { frames := 3, cells := 0, slots := 0, locals := 60 }).room s ([.ref (a (1000 + i))] : List Value).toArray RJ0 RJ0 335 yJ0_coder_7d493 cJ0_coder_7d493 1 (some .byte) (zws yJ0_coder_7d493 cJ0_coder_7d493 1 (some .byte)) { frames := 1, cells := 0, slots := 0, locals := 20 } 0 0 0 :=
    ⟨callB_of 0 htb (zGood (fun _ h => h) zcJ_coder) rfl rfl rfl (htb _ (zin_mem w10)) (htb _ (zin_mem w4)) (by decide +kernel) (by decide), htb _ (zin_mem w5), htb _ (zin_mem w6)⟩
  refine W.callR (W.runV (As := []) (rest := [.int (Int32.ofNat (zlens.getD i 0))]) (b := a (1000 + i)) ⟨hx, hb, hml, hown, htb⟩ (cJ_coder l a adV hi) hcw ⟨zJ.blind, vk_recv (adK := fun i => a (1000 + i)) (i := i) hE hi hS, fun U hU hW => ⟨rfl, hJ.moved hW hU⟩⟩ rfl rfl hl.1 rfl (lv_room (Nat.le_of_ble_eq_true rfl)) dJ0_length_8abf5_6 ⟨Nat.le_refl _, Nat.le_refl _⟩) ?_
  refine lv_ishr hx hb dJ0_length_8abf5_9 ?_
  have e1 : ∀ i, i < 10 → Int32.ofNat (zlens.getD i 0) >>> ((0 : Int32) &&& 31) = Int32.ofNat (zlens.getD i 0) := by decide +kernel
  rw [e1 i hi]
  exact W.iret hx hb hr (fun t ht hW => ⟨rfl, ht⟩) hS.2.2 dJ0_length_8abf5_10
end
section
-- String.charAt on the constants
theorem zj_w2 : zin 501 (.methodLink RJ0 1059 yJ3_checkIndex_8e157) = true ∧ zin 502 (.static yJ3_checkIndex_8e157) = true ∧ zin 88 (.initialized RJ3) = true ∧ zin 499 (.fieldLink RJ0 1053 RJ3 "SIOOBE_FORMATTER" "Ljava/util/function/BiFunction;") = true ∧ zin 496 (.methodLink RJ1 9 yJ0_checkIndex_df160) = true ∧ zin 497 (.static yJ0_checkIndex_df160) = true ∧ zin 493 (.methodLink RJ0 495 yJ1_charAt_3b067) = true ∧ zin 494 (.static yJ1_charAt_3b067) = true ∧ zin 87 (.initialized RJ1) = true := by decide +kernel
set_option maxRecDepth 100000 in
theorem zcJ_ci3 : lw_tbl[503]? = some (.code yJ3_checkIndex_8e157 cJ3_checkIndex_8e157 3 (some .int)) := rfl
set_option maxRecDepth 100000 in
theorem zcJ_ci0 : lw_tbl[498]? = some (.code yJ0_checkIndex_df160 cJ0_checkIndex_df160 2 none) := rfl
set_option maxRecDepth 100000 in
theorem zcJ_ca1 : lw_tbl[495]? = some (.code yJ1_charAt_3b067 cJ1_charAt_3b067 2 (some .char)) := rfl
set_option maxRecDepth 100000 in
theorem zcJ_lat : lw_tbl[492]? = some (.code yJ0_isLatin1_aae02 cJ0_isLatin1_aae02 1 (some .boolean)) := rfl
theorem cJ_ci3n (l : Launch) {k n : Int32} (h1 : ¬ k < 0) (h2 : k < n) : Met l yJ3_checkIndex_8e157 (zws yJ3_checkIndex_8e157 cJ3_checkIndex_8e157 3 (some .int)) { frames := 1, cells := 0, slots := 0, locals := 20 } (va_Pc [.int k, .int n, .null] (fun _ => True)) (QcRead k) 0 0 (fun _ => False) := by
  refine Met.ofW (cc := cJ3_checkIndex_8e157) (maxL := 3) (ret := some .int) (by decide) rfl ?_
  intro p e s m args below meth c s₁ B hml hv
  obtain ⟨rfl, -⟩ := hv
  have hx := B.exec
  have hb := B.bytes
  have hr := B.returns
  have hts := atoms_spec (ws := zws yJ3_checkIndex_8e157 cJ3_checkIndex_8e157 3 (some .int)) B.pre
  have htb : ∀ w ∈ zTB, w.before ([.int k, .int n, .null] : List Value).toArray s = true := fun w h => hts w (List.mem_cons_of_mem _ h)
  have hown : s.vm.findClass RJ3 = some m.cls := findClass_of_methodNamed B.named
  have hlocks := B.notSynchronized
  have hS : va_S (fun _ => False) s.heap s.heap [] := va_S.rf
  have hl := lv_entry ([.int k, .int n, .null]) (n := 3) (Nat.le_of_ble_eq_true rfl)
  rw [lg_entry_eq]
  generalize (lg_sl ([.int k, .int n, .null]) ++ List.replicate (3 - (lg_sl ([.int k, .int n, .null])).length) Slot.unset).toArray = ls at hl ⊢
  have hl : lv_has ls 3 [(0, .int k), (1, .int n), (2, .null)] := hl
  refine lv_iload_n hx hb dJ3_checkIndex_8e157_0 rfl (lv_at hl 0 rfl) ?_
  refine lv_if_lt (tgt := 9) hx hb dJ3_checkIndex_8e157_1 (by decide) (fun h => absurd h h1) (fun _ => ?_)
  refine lv_iload_n hx hb dJ3_checkIndex_8e157_4 rfl (lv_at hl 0 rfl) ?_
  refine lv_iload_n hx hb dJ3_checkIndex_8e157_5 rfl (lv_at hl 1 rfl) ?_
  refine lv_icmp_lt (tgt := 16) hx hb dJ3_checkIndex_8e157_6 (by decide) (fun _ => ?_) (fun h => absurd h2 h)
  refine lv_iload_n hx hb dJ3_checkIndex_8e157_16 rfl (lv_at hl 0 rfl) ?_
  exact W.iret hx hb hr (fun t ht hW => ⟨rfl, ht⟩) hS.2.2 dJ3_checkIndex_8e157_17
theorem cJ_ci3r (l : Launch) (q : Nat) {k n : Int32} (h1 : ¬ k < 0) (h2 : k < n) : Met l yJ3_checkIndex_8e157 (zws yJ3_checkIndex_8e157 cJ3_checkIndex_8e157 3 (some .int)) { frames := 1, cells := 0, slots := 0, locals := 20 } (va_Pc [.int k, .int n, .ref q] (fun _ => True)) (QcRead k) 0 0 (fun _ => False) := by
  refine Met.ofW (cc := cJ3_checkIndex_8e157) (maxL := 3) (ret := some .int) (by decide) rfl ?_
  intro p e s m args below meth c s₁ B hml hv
  obtain ⟨rfl, -⟩ := hv
  have hx := B.exec
  have hb := B.bytes
  have hr := B.returns
  have hts := atoms_spec (ws := zws yJ3_checkIndex_8e157 cJ3_checkIndex_8e157 3 (some .int)) B.pre
  have htb : ∀ w ∈ zTB, w.before ([.int k, .int n, .ref q] : List Value).toArray s = true := fun w h => hts w (List.mem_cons_of_mem _ h)
  have hown : s.vm.findClass RJ3 = some m.cls := findClass_of_methodNamed B.named
  have hlocks := B.notSynchronized
  have hS : va_S (fun _ => False) s.heap s.heap [] := va_S.rf
  have hl := lv_entry ([.int k, .int n, .ref q]) (n := 3) (Nat.le_of_ble_eq_true rfl)
  rw [lg_entry_eq]
  generalize (lg_sl ([.int k, .int n, .ref q]) ++ List.replicate (3 - (lg_sl ([.int k, .int n, .ref q])).length) Slot.unset).toArray = ls at hl ⊢
  have hl : lv_has ls 3 [(0, .int k), (1, .int n), (2, .ref q)] := hl
  refine lv_iload_n hx hb dJ3_checkIndex_8e157_0 rfl (lv_at hl 0 rfl) ?_
  refine lv_if_lt (tgt := 9) hx hb dJ3_checkIndex_8e157_1 (by decide) (fun h => absurd h h1) (fun _ => ?_)
  refine lv_iload_n hx hb dJ3_checkIndex_8e157_4 rfl (lv_at hl 0 rfl) ?_
  refine lv_iload_n hx hb dJ3_checkIndex_8e157_5 rfl (lv_at hl 1 rfl) ?_
  refine lv_icmp_lt (tgt := 16) hx hb dJ3_checkIndex_8e157_6 (by decide) (fun _ => ?_) (fun h => absurd h2 h)
  refine lv_iload_n hx hb dJ3_checkIndex_8e157_16 rfl (lv_at hl 0 rfl) ?_
  exact W.iret hx hb hr (fun t ht hW => ⟨rfl, ht⟩) hS.2.2 dJ3_checkIndex_8e157_17
theorem cJ_ci0 (l : Launch) (a adV : Nat → Nat) {k n : Int32} (h1 : ¬ k < 0) (h2 : k < n) : Met l yJ0_checkIndex_df160 (zws yJ0_checkIndex_df160 cJ0_checkIndex_df160 2 none) { frames := 3, cells := 0, slots := 0, locals := 80 } (va_Pc [.int k, .int n] (zJ a adV)) (va_Sv (fun _ => True)) 0 0 (fun _ => False) := by
  refine Met.ofW (cc := cJ0_checkIndex_df160) (maxL := 2) (ret := none) (by decide) rfl ?_
  intro p e s m args below meth c s₁ B hml hv
  obtain ⟨rfl, hJ⟩ := hv
  have hx := B.exec
  have hb := B.bytes
  have hr := B.returns
  have hts := atoms_spec (ws := zws yJ0_checkIndex_df160 cJ0_checkIndex_df160 2 (none)) B.pre
  have htb : ∀ w ∈ zTB, w.before ([.int k, .int n] : List Value).toArray s = true := fun w h => hts w (List.mem_cons_of_mem _ h)
  have hown : s.vm.findClass RJ0 = some m.cls := findClass_of_methodNamed B.named
  have hlocks := B.notSynchronized
  have hS : va_S (fun _ => False) s.heap s.heap [] := va_S.rf
  have hl := lv_entry ([.int k, .int n]) (n := 2) (Nat.le_of_ble_eq_true rfl)
  rw [lg_entry_eq]
  generalize (lg_sl ([.int k, .int n]) ++ List.replicate (2 - (lg_sl ([.int k, .int n])).length) Slot.unset).toArray = ls at hl ⊢
  have hl : lv_has ls 2 [(0, .int k), (1, .int n)] := hl
  obtain ⟨hE, hZ, hQ⟩ := id hJ
  obtain ⟨w1, w2, w3, w4, w5, w6, w7, w8, w9⟩ := zj_w2
  refine lv_iload_n hx hb dJ0_checkIndex_df160_0 rfl (lv_at hl 0 rfl) ?_
  refine lv_iload_n hx hb dJ0_checkIndex_df160_1 rfl (lv_at hl 1 rfl) ?_
  have hcw : CallB (headSpec (zws yJ0_checkIndex_df160 cJ0_checkIndex_df160 2 none) { frames := 3, cells := 0, slots := 0, locals := 80 }).room s ([.int k, .int n] : List Value).toArray RJ0 1059 yJ3_checkIndex_8e157 cJ3_checkIndex_8e157 3 (some .int) (zws yJ3_checkIndex_8e157 cJ3_checkIndex_8e157 3 (some .int)) { frames := 1, cells := 0, slots := 0, locals := 20 } 0 0 3 ∧ (Cond.static yJ3_checkIndex_8e157).before ([.int k, .int n] : List Value).toArray s = true :=
    ⟨callB_of 3 htb (zGood (fun _ h => h) zcJ_ci3) rfl rfl rfl (htb _ (zin_mem w3)) (htb _ (zin_mem w1)) (by decide +kernel) (by decide), htb _ (zin_mem w2)⟩
  have hend : ∀ z : Int32, W p l e (headSpec (zws yJ0_checkIndex_df160 cJ0_checkIndex_df160 2 none) { frames := 3, cells := 0, slots := 0, locals := 80 }).room s m ([.int k, .int n] : List Value).toArray below meth c s.heap [] 0 0 (MQ below (va_Sv (fun _ => True)) ([.int k, .int n] : List Value).toArray s 0 0 (fun _ => False)) (F0 m 8 ls [.int z]) := by
    intro z
    refine lv_pop hx hb dJ0_checkIndex_df160_8 rfl ?_
    exact W.vret hx hb hr (fun t ht hW => ⟨rfl, trivial, ht⟩) hS.2.2 dJ0_checkIndex_df160_9
  rcases hQ with hQ | ⟨q, hQ⟩
  · refine va_gets hx hb hQ hS hown (htb _ (zin_mem w4)) (fun _ h => h) dJ0_checkIndex_df160_2 ?_
    exact W.callR (W.runS (As := [.int k, .int n, .null]) (rest := []) ⟨hx, hb, hml, hown, htb⟩ (cJ_ci3n l h1 h2) hcw ⟨fun _ _ _ _ h => h, fun U hU hW => ⟨rfl, trivial⟩⟩ rfl rfl hl.1 rfl (lv_room (Nat.le_of_ble_eq_true rfl)) dJ0_checkIndex_df160_5 ⟨Nat.le_refl _, Nat.le_refl _⟩) (hend k)
  · refine va_gets hx hb hQ hS hown (htb _ (zin_mem w4)) (fun _ h => h) dJ0_checkIndex_df160_2 ?_
    exact W.callR (W.runS (As := [.int k, .int n, .ref q]) (rest := []) ⟨hx, hb, hml, hown, htb⟩ (cJ_ci3r l q h1 h2) hcw ⟨fun _ _ _ _ h => h, fun U hU hW => ⟨rfl, trivial⟩⟩ rfl rfl hl.1 rfl (lv_room (Nat.le_of_ble_eq_true rfl)) dJ0_checkIndex_df160_5 ⟨Nat.le_refl _, Nat.le_refl _⟩) (hend k)
end
section
-- String.charAt on the constants
theorem zch : ∀ i, i < 10 → zlens.getD i 0 < 2 ^ 31 ∧ ∀ k, k < zlens.getD i 0 → (((zbyts.getD i []).getD k 0 &&& 255).toUInt32 % 65536).toInt32 = (zstr i).getD k 0 ∧ narrow .char (.int ((zstr i).getD k 0)) = .int ((zstr i).getD k 0) := by decide +kernel
theorem cJ_ca1 (l : Launch) (a adV : Nat → Nat) {i k : Nat} (hi : i < 10) (hk : k < zlens.getD i 0) : Met l yJ1_charAt_3b067 (zws yJ1_charAt_3b067 cJ1_charAt_3b067 2 (some .char)) { frames := 5, cells := 0, slots := 0, locals := 140 } (va_Pc [.ref (adV i), .int (nI k)] (zJ a adV)) (QcRead ((zstr i).getD k 0)) 0 0 (fun _ => False) := by
  refine Met.ofW (cc := cJ1_charAt_3b067) (maxL := 2) (ret := some .char) (by decide) rfl ?_
  intro p e s m args below meth c s₁ B hml hv
  obtain ⟨rfl, hJ⟩ := hv
  have hx := B.exec
  have hb := B.bytes
  have hr := B.returns
  have hts := atoms_spec (ws := zws yJ1_charAt_3b067 cJ1_charAt_3b067 2 (some .char)) B.pre
  have htb : ∀ w ∈ zTB, w.before ([.ref (adV i), .int (nI k)] : List Value).toArray s = true := fun w h => hts w (List.mem_cons_of_mem _ h)
  have hown : s.vm.findClass RJ1 = some m.cls := findClass_of_methodNamed B.named
  have hlocks := B.notSynchronized
  have hS : va_S (fun _ => False) s.heap s.heap [] := va_S.rf
  have hl := lv_entry ([.ref (adV i), .int (nI k)]) (n := 2) (Nat.le_of_ble_eq_true rfl)
  rw [lg_entry_eq]
  generalize (lg_sl ([.ref (adV i), .int (nI k)]) ++ List.replicate (2 - (lg_sl ([.ref (adV i), .int (nI k)])).length) Slot.unset).toArray = ls at hl ⊢
  have hl : lv_has ls 2 [(0, .ref (adV i)), (1, .int (nI k))] := hl
  obtain ⟨hE, hZ, hQ⟩ := id hJ
  obtain ⟨w1, w2, w3, w4, w5, w6, w7, w8, w9⟩ := zj_w2
  obtain ⟨v1, v2, v3, v4, v5, v6, v7, v8, v9, v10⟩ := zj_w
  obtain ⟨hlen, hch⟩ := zch i hi
  obtain ⟨hc1, hc2⟩ := hch k hk
  have hk31 : k < 2 ^ 31 := by omega
  refine lv_iload_n hx hb dJ1_charAt_3b067_0 rfl (lv_at hl 1 rfl) ?_
  refine lv_aload_n hx hb dJ1_charAt_3b067_1 rfl (lv_at hl 0 rfl) ?_
  refine va_tlen hx hb (hE.1 i hi).2.2.2 hS rfl dJ1_charAt_3b067_2 ?_
  have hcw : CallB (headSpec (zws yJ1_charAt_3b067 cJ1_charAt_3b067 2 (some .char)) { frames := 5, cells := 0, slots := 0, locals := 140 }).room s ([.ref (adV i), .int (nI k)] : List Value).toArray RJ1 9 yJ0_checkIndex_df160 cJ0_checkIndex_df160 2 none (zws yJ0_checkIndex_df160 cJ0_checkIndex_df160 2 none) { frames := 3, cells := 0, slots := 0, locals := 80 } 0 0 2 ∧ (Cond.static yJ0_checkIndex_df160).before ([.ref (adV i), .int (nI k)] : List Value).toArray s = true :=
    ⟨callB_of 2 htb (zGood (fun _ h => h) zcJ_ci0) rfl rfl rfl (htb _ (zin_mem v10)) (htb _ (zin_mem w5)) (by decide +kernel) (by decide), htb _ (zin_mem w6)⟩
  refine va_csv (W.runS (As := [.int (nI k), .int (Int32.ofNat (zlens.getD i 0))]) (rest := []) ⟨hx, hb, hml, hown, htb⟩ (cJ_ci0 l a adV (nI_pos hk31) (nI_lt hk hlen)) hcw ⟨zJ.blind, fun U hU hW => ⟨rfl, hJ.moved hW hU⟩⟩ rfl rfl hl.1 rfl (lv_room (Nat.le_of_ble_eq_true rfl)) dJ1_charAt_3b067_3 ⟨Nat.le_refl _, Nat.le_refl _⟩) (fun _ => ?_)
  refine lv_aload_n hx hb dJ1_charAt_3b067_6 rfl (lv_at hl 0 rfl) ?_
  refine lv_iload_n hx hb dJ1_charAt_3b067_7 rfl (lv_at hl 1 rfl) ?_
  refine va_tb hx hb (hE.1 i hi).2.2.2 hS (vp_in_nI hk hlen) (v := .int ((zbyts.getD i []).getD k 0)) (by rw [nI_clamp hk31]) dJ1_charAt_3b067_8 ?_
  refine lv_sipush (v := 255) hx hb dJ1_charAt_3b067_9 (by decide) ?_
  refine lv_iand hx hb dJ1_charAt_3b067_12 ?_
  refine lv_i2c hx hb dJ1_charAt_3b067_13 hc1 ?_
  exact W.zret (ty := .char) hx hb hr hc2 (fun t ht hW => ⟨rfl, ht⟩) hS.2.2 dJ1_charAt_3b067_14
theorem cJ_charAt (l : Launch) (a adV : Nat → Nat) {i k : Nat} (hi : i < 10) (hk : k < zlens.getD i 0) : Met l yJ0_charAt_5068e (zws yJ0_charAt_5068e cJ0_charAt_5068e 2 (some .char)) { frames := 7, cells := 0, slots := 0, locals := 200 } (va_Pc [.ref (a (1000 + i)), .int (nI k)] (zJ a adV)) (QcRead ((zstr i).getD k 0)) 0 0 (fun _ => False) := by
  refine Met.ofW (cc := cJ0_charAt_5068e) (maxL := 2) (ret := some .char) (by decide) rfl ?_
  intro p e s m args below meth c s₁ B hml hv
  obtain ⟨rfl, hJ⟩ := hv
  have hx := B.exec
  have hb := B.bytes
  have hr := B.returns
  have hts := atoms_spec (ws := zws yJ0_charAt_5068e cJ0_charAt_5068e 2 (some .char)) B.pre
  have htb : ∀ w ∈ zTB, w.before ([.ref (a (1000 + i)), .int (nI k)] : List Value).toArray s = true := fun w h => hts w (List.mem_cons_of_mem _ h)
  have hown : s.vm.findClass RJ0 = some m.cls := findClass_of_methodNamed B.named
  have hlocks := B.notSynchronized
  have hS : va_S (fun _ => False) s.heap s.heap [] := va_S.rf
  have hl := lv_entry ([.ref (a (1000 + i)), .int (nI k)]) (n := 2) (Nat.le_of_ble_eq_true rfl)
  rw [lg_entry_eq]
  generalize (lg_sl ([.ref (a (1000 + i)), .int (nI k)]) ++ List.replicate (2 - (lg_sl ([.ref (a (1000 + i)), .int (nI k)])).length) Slot.unset).toArray = ls at hl ⊢
  have hl : lv_has ls 2 [(0, .ref (a (1000 + i))), (1, .int (nI k))] := hl
  obtain ⟨hE, hZ, hQ⟩ := id hJ
  obtain ⟨w1, w2, w3, w4, w5, w6, w7, w8, w9⟩ := zj_w2
  obtain ⟨v1, v2, v3, v4, v5, v6, v7, v8, v9, v10⟩ := zj_w
  obtain ⟨hlen, hch⟩ := zch i hi
  obtain ⟨hc1, hc2⟩ := hch k hk
  refine lv_aload_n hx hb dJ0_charAt_5068e_0 rfl (lv_at hl 0 rfl) ?_
  have hcw : CallW (headSpec (zws yJ0_charAt_5068e cJ0_charAt_5068e 2 (some .char)) { frames := 7, cells := 0, slots := 0, locals := 200 }).room s ([.ref (a (1000 + i)), .int (nI k)] : List Value).toArray RJ0 RJ0 492 yJ0_isLatin1_aae02 cJ0_isLatin1_aae02 1 (some .boolean) (zws yJ0_isLatin1_aae02 cJ0_isLatin1_aae02 1 (some .boolean)) { frames := 1, cells := 0, slots := 0, locals := 20 } 0 0 0 :=
    ⟨callB_of 0 htb (zGood (fun _ h => h) zcJ_lat) rfl rfl rfl (htb _ (zin_mem v10)) (htb _ (zin_mem v7)) (by decide +kernel) (by decide), htb _ (zin_mem v8), htb _ (zin_mem v9)⟩
  refine W.callR (W.runV (As := []) (rest := []) (b := a (1000 + i)) ⟨hx, hb, hml, hown, htb⟩ (cJ_isLatin1 l a adV hi) hcw ⟨zJ.blind, vk_recv (adK := fun i => a (1000 + i)) (i := i) hE hi hS, fun U hU hW => ⟨rfl, hJ.moved hW hU⟩⟩ rfl rfl hl.1 rfl (lv_room (Nat.le_of_ble_eq_true rfl)) dJ0_charAt_5068e_1 ⟨Nat.le_refl _, Nat.le_refl _⟩) ?_
  refine W.eq (g2 := F0 m 4 ls [.int 1]) rfl ?_
  refine lv_if_eq (tgt := 16) hx hb dJ0_charAt_5068e_4 (by decide) (fun h => absurd h (by decide)) (fun _ => ?_)
  refine lv_aload_n hx hb dJ0_charAt_5068e_7 rfl (lv_at hl 0 rfl) ?_
  refine vk_getf hx hb (hE.1 i hi).2.2.1 hS hown (htb _ (zin_mem v3)) (fun _ h => h) dJ0_charAt_5068e_8 ?_
  refine lv_iload_n hx hb dJ0_charAt_5068e_11 rfl (lv_at hl 1 rfl) ?_
  have hcw2 : CallB (headSpec (zws yJ0_charAt_5068e cJ0_charAt_5068e 2 (some .char)) { frames := 7, cells := 0, slots := 0, locals := 200 }).room s ([.ref (a (1000 + i)), .int (nI k)] : List Value).toArray RJ0 495 yJ1_charAt_3b067 cJ1_charAt_3b067 2 (some .char) (zws yJ1_charAt_3b067 cJ1_charAt_3b067 2 (some .char)) { frames := 5, cells := 0, slots := 0, locals := 140 } 0 0 2 ∧ (Cond.static yJ1_charAt_3b067).before ([.ref (a (1000 + i)), .int (nI k)] : List Value).toArray s = true :=
    ⟨callB_of 2 htb (zGood (fun _ h => h) zcJ_ca1) rfl rfl rfl (htb _ (zin_mem w9)) (htb _ (zin_mem w7)) (by decide +kernel) (by decide), htb _ (zin_mem w8)⟩
  refine W.callR (W.runS (As := [.ref (adV i), .int (nI k)]) (rest := []) ⟨hx, hb, hml, hown, htb⟩ (cJ_ca1 l a adV hi hk) hcw2 ⟨zJ.blind, fun U hU hW => ⟨rfl, hJ.moved hW hU⟩⟩ rfl rfl hl.1 rfl (lv_room (Nat.le_of_ble_eq_true rfl)) dJ0_charAt_5068e_12 ⟨Nat.le_refl _, Nat.le_refl _⟩) ?_
  refine W.eq (g2 := F0 m 15 ls [.int ((zstr i).getD k 0)]) rfl ?_
  exact W.zret (ty := .char) hx hb hr hc2 (fun t ht hW => ⟨rfl, ht⟩) hS.2.2 dJ0_charAt_5068e_15
end
section
-- String.indexOf on the constants
theorem cJ_can (l : Launch) {v : Int32} (h1 : ¬ v < 0) (h2 : v < 256) : Met l yJ1_canEncode_9a6ad (zws yJ1_canEncode_9a6ad cJ1_canEncode_9a6ad 1 (some .boolean)) { frames := 1, cells := 0, slots := 0, locals := 20 } (va_Pc [.int v] (fun _ => True)) (QcRead 1) 0 0 (fun _ => False) := by
  refine Met.ofW (cc := cJ1_canEncode_9a6ad) (maxL := 1) (ret := some .boolean) (by decide) rfl ?_
  intro p e s m args below meth c s₁ B hml hv
  obtain ⟨rfl, -⟩ := hv
  have hx := B.exec
  have hb := B.bytes
  have hr := B.returns
  have hts := atoms_spec (ws := zws yJ1_canEncode_9a6ad cJ1_canEncode_9a6ad 1 (some .boolean)) B.pre
  have htb : ∀ w ∈ zTB, w.before ([.int v] : List Value).toArray s = true := fun w h => hts w (List.mem_cons_of_mem _ h)
  have hown : s.vm.findClass RJ1 = some m.cls := findClass_of_methodNamed B.named
  have hlocks := B.notSynchronized
  have hS : va_S (fun _ => False) s.heap s.heap [] := va_S.rf
  have hl := lv_entry ([.int v]) (n := 1) (Nat.le_of_ble_eq_true rfl)
  rw [lg_entry_eq]
  generalize (lg_sl ([.int v]) ++ List.replicate (1 - (lg_sl ([.int v])).length) Slot.unset).toArray = ls at hl ⊢
  have hl : lv_has ls 1 [(0, .int v)] := hl
  have h3 : ¬ (255 : Int32) < v := fun h => by
    have a1 := Int32.lt_iff_toInt_lt.mp h
    have a2 := Int32.lt_iff_toInt_lt.mp h2
    have e1 : (255 : Int32).toInt = 255 := by decide
    have e2 : (256 : Int32).toInt = 256 := by decide
    omega
  refine lv_iload_n hx hb dJ1_canEncode_9a6ad_0 rfl (lv_at hl 0 rfl) ?_
  refine lv_if_lt (tgt := 15) hx hb dJ1_canEncode_9a6ad_1 (by decide) (fun h => absurd h h1) (fun _ => ?_)
  refine lv_iload_n hx hb dJ1_canEncode_9a6ad_4 rfl (lv_at hl 0 rfl) ?_
  refine lv_sipush (v := 255) hx hb dJ1_canEncode_9a6ad_5 (by decide) ?_
  refine lv_icmp_gt (tgt := 15) hx hb dJ1_canEncode_9a6ad_8 (by decide) (fun h => absurd h h3) (fun _ => ?_)
  refine lv_iconst (v := 1) hx hb dJ1_canEncode_9a6ad_11 (by decide) ?_
  refine lv_goto (tgt := 16) hx hb dJ1_canEncode_9a6ad_12 (by decide) ?_
  exact W.zret (v := 1) (ty := .boolean) hx hb hr (by decide) (fun t ht hW => ⟨rfl, ht⟩) hS.2.2 dJ1_canEncode_9a6ad_16
/-- the place of a byte in what is left -/
theorem zix_byte : ∀ i, i < 10 → ∀ k, k < zlens.getD i 0 → ((zbyts.getD i []).getD k 0).toInt8.toInt32 = (zstr i).getD k 0 ∧ (zbyts.getD i []).getD k 0 = (zstr i).getD k 0 ∧ (zstr i).length = zlens.getD i 0 := by decide +kernel
end
section
-- the loop of indexOf
theorem zix_eq : ∀ n, n < 256 → ∀ i, i < 10 → ∀ k, k < zlens.getD i 0 → ((zbyts.getD i []).getD k 0 = (nI n).toInt8.toInt32 ↔ (zstr i).getD k 0 = nI n) := by decide +kernel
theorem zix_drop {i k : Nat} (h : k < (zstr i).length) (c x : Int32) : zixF c ((zstr i).drop k) x = if (zstr i).getD k 0 = c then x else zixF c ((zstr i).drop (k + 1)) (x + 1) := by
  rw [List.drop_eq_getElem_cons h]
  simp only [zixF]
  rw [List.getD_eq_getElem?_getD, List.getElem?_eq_getElem h]
  rfl
theorem zix_end {i k : Nat} (h : (zstr i).length ≤ k) (c x : Int32) : zixF c ((zstr i).drop k) x = -1 := by
  rw [List.drop_eq_nil_of_le h]; rfl
theorem cJ_ixc (l : Launch) (a adV : Nat → Nat) {i n : Nat} (hi : i < 10) (hn : n < 256) : Met l yJ1_indexOfChar_4cfef (zws yJ1_indexOfChar_4cfef cJ1_indexOfChar_4cfef 6 (some .int)) { frames := 1, cells := 0, slots := 0, locals := 20 } (va_Pc [.ref (adV i), .int (nI n), .int 0, .int (Int32.ofNat (zlens.getD i 0))] (zJ a adV)) (QcRead (zixF (nI n) (zstr i) 0)) 0 0 (fun _ => False) := by
  refine Met.ofW (cc := cJ1_indexOfChar_4cfef) (maxL := 6) (ret := some .int) (by decide) rfl ?_
  intro p e s m args below meth c s₁ B hml hv
  obtain ⟨rfl, hJ⟩ := hv
  obtain ⟨hE, hZ, hQ⟩ := id hJ
  have hx := B.exec
  have hb := B.bytes
  have hr := B.returns
  have hlocks := B.notSynchronized
  have hS : va_S (fun _ => False) s.heap s.heap [] := va_S.rf
  have hl := lv_entry ([.ref (adV i), .int (nI n), .int 0, .int (Int32.ofNat (zlens.getD i 0))]) (n := 6) (Nat.le_of_ble_eq_true rfl)
  rw [lg_entry_eq]
  generalize (lg_sl ([.ref (adV i), .int (nI n), .int 0, .int (Int32.ofNat (zlens.getD i 0))]) ++ List.replicate (6 - (lg_sl ([.ref (adV i), .int (nI n), .int 0, .int (Int32.ofNat (zlens.getD i 0))])).length) Slot.unset).toArray = ls at hl ⊢
  have hl : lv_has ls 6 [(0, .ref (adV i)), (1, .int (nI n)), (2, .int 0), (3, .int (Int32.ofNat (zlens.getD i 0)))] := hl
  obtain ⟨hlen, -⟩ := zch i hi
  have hL : (zstr i).length = zlens.getD i 0 := by
    have : ∀ i, i < 10 → (zstr i).length = zlens.getD i 0 := by decide +kernel
    exact this i hi
  have loop : ∀ (f k : Nat) (ls : Array Slot), zlens.getD i 0 ≤ k + f → k ≤ zlens.getD i 0 → lv_has ls 6 [(0, .ref (adV i)), (3, .int (Int32.ofNat (zlens.getD i 0))), (4, .int (nI n).toInt8.toInt32), (5, .int (nI k))] →
      W p l e (headSpec (zws yJ1_indexOfChar_4cfef cJ1_indexOfChar_4cfef 6 (some .int)) { frames := 1, cells := 0, slots := 0, locals := 20 }).room s m ([.ref (adV i), .int (nI n), .int 0, .int (Int32.ofNat (zlens.getD i 0))] : List Value).toArray below meth c s.heap [] 0 0 (MQ below (QcRead (zixF (nI n) ((zstr i).drop k) (nI k))) ([.ref (adV i), .int (nI n), .int 0, .int (Int32.ofNat (zlens.getD i 0))] : List Value).toArray s 0 0 (fun _ => False)) (F0 m 7 ls []) := by
    intro f
    induction f with
    | zero =>
      intro k ls h1 h2 hl
      refine lv_iload hx hb dJ1_indexOfChar_4cfef_7 (lv_at hl 3 rfl) ?_
      refine lv_iload_n hx hb dJ1_indexOfChar_4cfef_9 rfl (lv_at hl 1 rfl) ?_
      refine lv_icmp_ge (tgt := 31) hx hb dJ1_indexOfChar_4cfef_10 (by decide) (fun _ => ?_) (fun h => absurd (nI_le (a := zlens.getD i 0) (b := k) (by omega) (by omega)) h)
      refine lv_iconst (v := -1) hx hb dJ1_indexOfChar_4cfef_31 (by decide) ?_
      rw [zix_end (by omega)]
      exact W.iret hx hb hr (fun t ht hW => ⟨rfl, ht⟩) hS.2.2 dJ1_indexOfChar_4cfef_32
    | succ f ih =>
      intro k ls h1 h2 hl
      refine lv_iload hx hb dJ1_indexOfChar_4cfef_7 (lv_at hl 3 rfl) ?_
      refine lv_iload_n hx hb dJ1_indexOfChar_4cfef_9 rfl (lv_at hl 1 rfl) ?_
      by_cases hk : k < zlens.getD i 0
      · refine lv_icmp_ge (tgt := 31) hx hb dJ1_indexOfChar_4cfef_10 (by decide) (fun h => absurd h (nI_ge hk hlen)) (fun _ => ?_)
        refine lv_aload_n hx hb dJ1_indexOfChar_4cfef_13 rfl (lv_at hl 0 rfl) ?_
        refine lv_iload hx hb dJ1_indexOfChar_4cfef_14 (lv_at hl 3 rfl) ?_
        refine va_tb hx hb (hE.1 i hi).2.2.2 hS (vp_in_nI hk hlen) (v := .int ((zbyts.getD i []).getD k 0)) (by rw [nI_clamp (by omega)]) dJ1_indexOfChar_4cfef_16 ?_
        refine lv_iload hx hb dJ1_indexOfChar_4cfef_17 (lv_at hl 2 rfl) ?_
        rw [zix_drop (by omega)]
        refine lv_icmp_ne (tgt := 25) hx hb dJ1_indexOfChar_4cfef_19 (by decide) (fun h => ?_) (fun h => ?_)
        · rw [if_neg (fun h9 => h ((zix_eq n hn i hi k hk).mpr h9)), nI_1]
          refine lv_iinc (v := nI (k + 1)) (lv' := [(5, .int (nI (k + 1))), (0, .ref (adV i)), (3, .int (Int32.ofNat (zlens.getD i 0))), (4, .int (nI n).toInt8.toInt32)]) hx hb dJ1_indexOfChar_4cfef_25 hl (k := 3) rfl (nI_1 k) (by decide) rfl (fun ls hl => ?_)
          refine lv_goto (tgt := 7) hx hb dJ1_indexOfChar_4cfef_28 (by decide) ?_
          exact ih (k + 1) ls (by omega) (by omega) (lv_sub hl [1, 2, 3, 0] rfl)
        · rw [if_pos ((zix_eq n hn i hi k hk).mp h)]
          refine lv_iload hx hb dJ1_indexOfChar_4cfef_22 (lv_at hl 3 rfl) ?_
          exact W.iret hx hb hr (fun t ht hW => ⟨rfl, ht⟩) hS.2.2 dJ1_indexOfChar_4cfef_24
      · refine lv_icmp_ge (tgt := 31) hx hb dJ1_indexOfChar_4cfef_10 (by decide) (fun _ => ?_) (fun h => absurd (nI_le (a := zlens.getD i 0) (b := k) (by omega) (by omega)) h)
        refine lv_iconst (v := -1) hx hb dJ1_indexOfChar_4cfef_31 (by decide) ?_
        rw [zix_end (by omega)]
        exact W.iret hx hb hr (fun t ht hW => ⟨rfl, ht⟩) hS.2.2 dJ1_indexOfChar_4cfef_32
  refine lv_iload_n hx hb dJ1_indexOfChar_4cfef_0 rfl (lv_at hl 1 rfl) ?_
  refine lv_i2b hx hb dJ1_indexOfChar_4cfef_1 rfl ?_
  refine lv_istore (lv' := [(4, .int (nI n).toInt8.toInt32), (0, .ref (adV i)), (1, .int (nI n)), (2, .int 0), (3, .int (Int32.ofNat (zlens.getD i 0)))]) hx hb dJ1_indexOfChar_4cfef_2 hl (by decide) rfl (fun ls hl => ?_)
  refine lv_iload_n hx hb dJ1_indexOfChar_4cfef_4 rfl (lv_at hl 3 rfl) ?_
  refine lv_istore (lv' := [(5, .int 0), (4, .int (nI n).toInt8.toInt32), (0, .ref (adV i)), (1, .int (nI n)), (2, .int 0), (3, .int (Int32.ofNat (zlens.getD i 0)))]) hx hb dJ1_indexOfChar_4cfef_5 hl (by decide) rfl (fun ls hl => ?_)
  exact loop (zlens.getD i 0) 0 ls (by omega) (Nat.zero_le _) (lv_sub hl [2, 5, 1, 0] rfl)
end
section
-- StringLatin1.indexOf
theorem zj_w3 : zin 551 (.methodLink RJ1 92 Lib.Math.max.name) = true ∧ zin 552 (.static Lib.Math.max.name) = true ∧ zin 90 (.initialized "java/lang/Math") = true ∧ zin 553 (.code Lib.Math.max.name Lib.Math.max.code 2 (some .int)) = true ∧ zin 554 (.methodLink RJ1 38 Lib.Math.min.name) = true ∧ zin 555 (.static Lib.Math.min.name) = true ∧ zin 556 (.code Lib.Math.min.name Lib.Math.min.code 2 (some .int)) = true ∧ zin 548 (.methodLink RJ1 88 yJ1_canEncode_9a6ad) = true ∧ zin 549 (.static yJ1_canEncode_9a6ad) = true ∧ zin 557 (.methodLink RJ1 95 yJ1_indexOfChar_4cfef) = true ∧ zin 558 (.static yJ1_indexOfChar_4cfef) = true := by decide +kernel
set_option maxRecDepth 100000 in
theorem zcJ_can : lw_tbl[550]? = some (.code yJ1_canEncode_9a6ad cJ1_canEncode_9a6ad 1 (some .boolean)) := rfl
set_option maxRecDepth 100000 in
theorem zcJ_ixc : lw_tbl[559]? = some (.code yJ1_indexOfChar_4cfef cJ1_indexOfChar_4cfef 6 (some .int)) := rfl
theorem cJ_ix1 (l : Launch) (a adV : Nat → Nat) {i n : Nat} (hi : i < 10) (hn : n < 256) : Met l yJ1_indexOf_4cfef (zws yJ1_indexOf_4cfef cJ1_indexOf_4cfef 4 (some .int)) { frames := 3, cells := 0, slots := 0, locals := 80 } (va_Pc [.ref (adV i), .int (nI n), .int 0, .int (Int32.ofNat (zlens.getD i 0))] (zJ a adV)) (QcRead (zixF (nI n) (zstr i) 0)) 0 0 (fun _ => False) := by
  refine Met.ofW (cc := cJ1_indexOf_4cfef) (maxL := 4) (ret := some .int) (by decide) rfl ?_
  intro p e s m args below meth c s₁ B hml hv
  obtain ⟨rfl, hJ⟩ := hv
  obtain ⟨hE, hZ, hQ⟩ := id hJ
  have hx := B.exec
  have hb := B.bytes
  have hr := B.returns
  have hts := atoms_spec (ws := zws yJ1_indexOf_4cfef cJ1_indexOf_4cfef 4 (some .int)) B.pre
  have htb : ∀ w ∈ zTB, w.before ([.ref (adV i), .int (nI n), .int 0, .int (Int32.ofNat (zlens.getD i 0))] : List Value).toArray s = true := fun w h => hts w (List.mem_cons_of_mem _ h)
  have hown : s.vm.findClass RJ1 = some m.cls := findClass_of_methodNamed B.named
  have hlocks := B.notSynchronized
  have hS : va_S (fun _ => False) s.heap s.heap [] := va_S.rf
  obtain ⟨w1, w2, w3, w4, w5, w6, w7, w8, w9, w10, w11⟩ := zj_w3
  obtain ⟨-, -, -, -, -, -, -, -, v9⟩ := zj_w2
  have hl := lv_entry ([.ref (adV i), .int (nI n), .int 0, .int (Int32.ofNat (zlens.getD i 0))]) (n := 4) (Nat.le_of_ble_eq_true rfl)
  rw [lg_entry_eq]
  generalize (lg_sl ([.ref (adV i), .int (nI n), .int 0, .int (Int32.ofNat (zlens.getD i 0))]) ++ List.replicate (4 - (lg_sl ([.ref (adV i), .int (nI n), .int 0, .int (Int32.ofNat (zlens.getD i 0))])).length) Slot.unset).toArray = ls at hl ⊢
  have hl : lv_has ls 4 [(0, .ref (adV i)), (1, .int (nI n)), (2, .int 0), (3, .int (Int32.ofNat (zlens.getD i 0)))] := hl
  have hpos : (0 : Int32) < Int32.ofNat (zlens.getD i 0) := by
    have : ∀ i, i < 10 → (0 : Int32) < Int32.ofNat (zlens.getD i 0) := by decide +kernel
    exact this i hi
  have hv256 : nI n < 256 := by
    have : ∀ n, n < 256 → nI n < 256 := by decide +kernel
    exact this n hn
  refine lv_iload_n hx hb dJ1_indexOf_4cfef_0 rfl (lv_at hl 1 rfl) ?_
  have hcw : CallB (headSpec (zws yJ1_indexOf_4cfef cJ1_indexOf_4cfef 4 (some .int)) { frames := 3, cells := 0, slots := 0, locals := 80 }).room s ([.ref (adV i), .int (nI n), .int 0, .int (Int32.ofNat (zlens.getD i 0))] : List Value).toArray RJ1 88 yJ1_canEncode_9a6ad cJ1_canEncode_9a6ad 1 (some .boolean) (zws yJ1_canEncode_9a6ad cJ1_canEncode_9a6ad 1 (some .boolean)) { frames := 1, cells := 0, slots := 0, locals := 20 } 0 0 1 ∧ (Cond.static yJ1_canEncode_9a6ad).before ([.ref (adV i), .int (nI n), .int 0, .int (Int32.ofNat (zlens.getD i 0))] : List Value).toArray s = true :=
    ⟨callB_of 1 htb (zGood (fun _ h => h) zcJ_can) rfl rfl rfl (htb _ (zin_mem v9)) (htb _ (zin_mem w8)) (by decide +kernel) (by decide), htb _ (zin_mem w9)⟩
  refine W.callR (W.runS (As := [.int (nI n)]) (rest := []) ⟨hx, hb, hml, hown, htb⟩ (cJ_can l (nI_pos (by omega)) hv256) hcw ⟨fun _ _ _ _ h => h, fun U hU hW => ⟨rfl, trivial⟩⟩ rfl rfl hl.1 rfl (lv_room (Nat.le_of_ble_eq_true rfl)) dJ1_indexOf_4cfef_1 ⟨Nat.le_refl _, Nat.le_refl _⟩) ?_
  refine W.eq (g2 := F0 m 4 ls [.int 1]) rfl ?_
  refine lv_if_ne (tgt := 9) hx hb dJ1_indexOf_4cfef_4 (by decide) (fun _ => ?_) (fun h => absurd h (by decide))
  refine lv_iload_n hx hb dJ1_indexOf_4cfef_9 rfl (lv_at hl 2 rfl) ?_
  refine lv_iconst (v := 0) hx hb dJ1_indexOf_4cfef_10 (by decide) ?_
  refine va_mmax hx hb (hml.trans hl.1.symm) hown (htb _ (zin_mem w1)) (htb _ (zin_mem w2)) (htb _ (zin_mem w3)) (htb _ (zin_mem w4)) (Nat.le_of_ble_eq_true rfl) (Nat.le_of_ble_eq_true rfl) (Nat.zero_le _) (Nat.zero_le _) dJ1_indexOf_4cfef_11 ?_
  rw [if_neg (by decide)]
  refine lv_istore_n (lv' := [(2, .int 0), (0, .ref (adV i)), (1, .int (nI n)), (3, .int (Int32.ofNat (zlens.getD i 0)))]) hx hb dJ1_indexOf_4cfef_14 rfl hl (by decide) rfl (fun ls hl => ?_)
  refine lv_iload_n hx hb dJ1_indexOf_4cfef_15 rfl (lv_at hl 3 rfl) ?_
  refine lv_aload_n hx hb dJ1_indexOf_4cfef_16 rfl (lv_at hl 1 rfl) ?_
  refine va_tlen hx hb (hE.1 i hi).2.2.2 hS rfl dJ1_indexOf_4cfef_17 ?_
  refine va_mmin hx hb (hml.trans hl.1.symm) hown (htb _ (zin_mem w5)) (htb _ (zin_mem w6)) (htb _ (zin_mem w3)) (htb _ (zin_mem w7)) (Nat.le_of_ble_eq_true rfl) (Nat.le_of_ble_eq_true rfl) (Nat.zero_le _) (Nat.zero_le _) dJ1_indexOf_4cfef_18 ?_
  rw [ite_self]
  refine lv_istore_n (lv' := [(3, .int (Int32.ofNat (zlens.getD i 0))), (2, .int 0), (0, .ref (adV i)), (1, .int (nI n))]) hx hb dJ1_indexOf_4cfef_21 rfl hl (by decide) rfl (fun ls hl => ?_)
  refine lv_iload_n hx hb dJ1_indexOf_4cfef_22 rfl (lv_at hl 1 rfl) ?_
  refine lv_iload_n hx hb dJ1_indexOf_4cfef_23 rfl (lv_at hl 0 rfl) ?_
  refine lv_icmp_lt (tgt := 29) hx hb dJ1_indexOf_4cfef_24 (by decide) (fun _ => ?_) (fun h => absurd hpos h)
  refine lv_aload_n hx hb dJ1_indexOf_4cfef_29 rfl (lv_at hl 2 rfl) ?_
  refine lv_iload_n hx hb dJ1_indexOf_4cfef_30 rfl (lv_at hl 3 rfl) ?_
  refine lv_iload_n hx hb dJ1_indexOf_4cfef_31 rfl (lv_at hl 1 rfl) ?_
  refine lv_iload_n hx hb dJ1_indexOf_4cfef_32 rfl (lv_at hl 0 rfl) ?_
  have hcw2 : CallB (headSpec (zws yJ1_indexOf_4cfef cJ1_indexOf_4cfef 4 (some .int)) { frames := 3, cells := 0, slots := 0, locals := 80 }).room s ([.ref (adV i), .int (nI n), .int 0, .int (Int32.ofNat (zlens.getD i 0))] : List Value).toArray RJ1 95 yJ1_indexOfChar_4cfef cJ1_indexOfChar_4cfef 6 (some .int) (zws yJ1_indexOfChar_4cfef cJ1_indexOfChar_4cfef 6 (some .int)) { frames := 1, cells := 0, slots := 0, locals := 20 } 0 0 4 ∧ (Cond.static yJ1_indexOfChar_4cfef).before ([.ref (adV i), .int (nI n), .int 0, .int (Int32.ofNat (zlens.getD i 0))] : List Value).toArray s = true :=
    ⟨callB_of 4 htb (zGood (fun _ h => h) zcJ_ixc) rfl rfl rfl (htb _ (zin_mem v9)) (htb _ (zin_mem w10)) (by decide +kernel) (by decide), htb _ (zin_mem w11)⟩
  refine W.callR (W.runS (As := [.ref (adV i), .int (nI n), .int 0, .int (Int32.ofNat (zlens.getD i 0))]) (rest := []) ⟨hx, hb, hml, hown, htb⟩ (cJ_ixc l a adV hi hn) hcw2 ⟨zJ.blind, fun U hU hW => ⟨rfl, hJ.moved hW hU⟩⟩ rfl rfl hl.1 rfl (lv_room (Nat.le_of_ble_eq_true rfl)) dJ1_indexOf_4cfef_33 ⟨Nat.le_refl _, Nat.le_refl _⟩) ?_
  refine W.eq (g2 := F0 m 36 ls [.int (zixF (nI n) (zstr i) 0)]) rfl ?_
  exact W.iret hx hb hr (fun t ht hW => ⟨rfl, ht⟩) hS.2.2 dJ1_indexOf_4cfef_36
end
section
-- String.indexOf
theorem zj_w4 : zin 540 (.methodLink RJ0 633 yJ0_indexOf_7cf53) = true ∧ zin 541 (.instanceMethod yJ0_indexOf_7cf53) = true ∧ zin 542 (.selects RJ0 yJ0_indexOf_7cf53 yJ0_indexOf_7cf53) = true ∧ zin 544 (.methodLink RJ0 505 yJ0_length_8abf5) = true ∧ zin 476 (.instanceMethod yJ0_length_8abf5) = true ∧ zin 477 (.selects RJ0 yJ0_length_8abf5 yJ0_length_8abf5) = true ∧ zin 545 (.methodLink RJ0 637 yJ1_indexOf_4cfef) = true ∧ zin 546 (.static yJ1_indexOf_4cfef) = true := by decide +kernel
set_option maxRecDepth 100000 in
theorem zcJ_ix2 : lw_tbl[543]? = some (.code yJ0_indexOf_7cf53 cJ0_indexOf_7cf53 3 (some .int)) := rfl
set_option maxRecDepth 100000 in
theorem zcJ_len : lw_tbl[478]? = some (.code yJ0_length_8abf5 cJ0_length_8abf5 1 (some .int)) := rfl
set_option maxRecDepth 100000 in
theorem zcJ_ix1 : lw_tbl[547]? = some (.code yJ1_indexOf_4cfef cJ1_indexOf_4cfef 4 (some .int)) := rfl
theorem cJ_ix2 (l : Launch) (a adV : Nat → Nat) {i n : Nat} (hi : i < 10) (hn : n < 256) : Met l yJ0_indexOf_7cf53 (zws yJ0_indexOf_7cf53 cJ0_indexOf_7cf53 3 (some .int)) { frames := 5, cells := 0, slots := 0, locals := 150 } (va_Pc [.ref (a (1000 + i)), .int (nI n), .int 0] (zJ a adV)) (QcRead (zixF (nI n) (zstr i) 0)) 0 0 (fun _ => False) := by
  refine Met.ofW (cc := cJ0_indexOf_7cf53) (maxL := 3) (ret := some .int) (by decide) rfl ?_
  intro p e s m args below meth c s₁ B hml hv
  obtain ⟨rfl, hJ⟩ := hv
  obtain ⟨hE, hZ, hQ⟩ := id hJ
  have hx := B.exec
  have hb := B.bytes
  have hr := B.returns
  have hts := atoms_spec (ws := zws yJ0_indexOf_7cf53 cJ0_indexOf_7cf53 3 (some .int)) B.pre
  have htb : ∀ w ∈ zTB, w.before ([.ref (a (1000 + i)), .int (nI n), .int 0] : List Value).toArray s = true := fun w h => hts w (List.mem_cons_of_mem _ h)
  have hown : s.vm.findClass RJ0 = some m.cls := findClass_of_methodNamed B.named
  have hlocks := B.notSynchronized
  have hS : va_S (fun _ => False) s.heap s.heap [] := va_S.rf
  obtain ⟨w1, w2, w3, w4, w5, w6, w7, w8⟩ := zj_w4
  obtain ⟨-, -, -, -, -, -, -, -, u9⟩ := zj_w2
  obtain ⟨v1, v2, v3, v4, v5, v6, v7, v8, v9, v10⟩ := zj_w
  have hl := lv_entry ([.ref (a (1000 + i)), .int (nI n), .int 0]) (n := 3) (Nat.le_of_ble_eq_true rfl)
  rw [lg_entry_eq]
  generalize (lg_sl ([.ref (a (1000 + i)), .int (nI n), .int 0]) ++ List.replicate (3 - (lg_sl ([.ref (a (1000 + i)), .int (nI n), .int 0])).length) Slot.unset).toArray = ls at hl ⊢
  have hl : lv_has ls 3 [(0, .ref (a (1000 + i))), (1, .int (nI n)), (2, .int 0)] := hl
  refine lv_aload_n hx hb dJ0_indexOf_7cf53_0 rfl (lv_at hl 0 rfl) ?_
  have hcw : CallW (headSpec (zws yJ0_indexOf_7cf53 cJ0_indexOf_7cf53 3 (some .int)) { frames := 5, cells := 0, slots := 0, locals := 150 }).room s ([.ref (a (1000 + i)), .int (nI n), .int 0] : List Value).toArray RJ0 RJ0 492 yJ0_isLatin1_aae02 cJ0_isLatin1_aae02 1 (some .boolean) (zws yJ0_isLatin1_aae02 cJ0_isLatin1_aae02 1 (some .boolean)) { frames := 1, cells := 0, slots := 0, locals := 20 } 0 0 0 :=
    ⟨callB_of 0 htb (zGood (fun _ h => h) zcJ_lat) rfl rfl rfl (htb _ (zin_mem v10)) (htb _ (zin_mem v7)) (by decide +kernel) (by decide), htb _ (zin_mem v8), htb _ (zin_mem v9)⟩
  refine W.callR (W.runV (As := []) (rest := []) (b := a (1000 + i)) ⟨hx, hb, hml, hown, htb⟩ (cJ_isLatin1 l a adV hi) hcw ⟨zJ.blind, vk_recv (adK := fun i => a (1000 + i)) (i := i) hE hi hS, fun U hU hW => ⟨rfl, hJ.moved hW hU⟩⟩ rfl rfl hl.1 rfl (lv_room (Nat.le_of_ble_eq_true rfl)) dJ0_indexOf_7cf53_1 ⟨Nat.le_refl _, Nat.le_refl _⟩) ?_
  refine W.eq (g2 := F0 m 4 ls [.int 1]) rfl ?_
  refine lv_if_eq (tgt := 23) hx hb dJ0_indexOf_7cf53_4 (by decide) (fun h => absurd h (by decide)) (fun _ => ?_)
  refine lv_aload_n hx hb dJ0_indexOf_7cf53_7 rfl (lv_at hl 0 rfl) ?_
  refine vk_getf hx hb (hE.1 i hi).2.2.1 hS hown (htb _ (zin_mem v3)) (fun _ h => h) dJ0_indexOf_7cf53_8 ?_
  refine lv_iload_n hx hb dJ0_indexOf_7cf53_11 rfl (lv_at hl 1 rfl) ?_
  refine lv_iload_n hx hb dJ0_indexOf_7cf53_12 rfl (lv_at hl 2 rfl) ?_
  refine lv_aload_n hx hb dJ0_indexOf_7cf53_13 rfl (lv_at hl 0 rfl) ?_
  have hcw1 : CallW (headSpec (zws yJ0_indexOf_7cf53 cJ0_indexOf_7cf53 3 (some .int)) { frames := 5, cells := 0, slots := 0, locals := 150 }).room s ([.ref (a (1000 + i)), .int (nI n), .int 0] : List Value).toArray RJ0 RJ0 505 yJ0_length_8abf5 cJ0_length_8abf5 1 (some .int) (zws yJ0_length_8abf5 cJ0_length_8abf5 1 (some .int)) { frames := 3, cells := 0, slots := 0, locals := 60 } 0 0 0 :=
    ⟨callB_of 0 htb (zGood (fun _ h => h) zcJ_len) rfl rfl rfl (htb _ (zin_mem v10)) (htb _ (zin_mem w4)) (by decide +kernel) (by decide), htb _ (zin_mem w5), htb _ (zin_mem w6)⟩
  refine W.callR (W.runV (As := []) (rest := [.int 0, .int (nI n), .ref (adV i)]) (b := a (1000 + i)) ⟨hx, hb, hml, hown, htb⟩ (cJ_length l a adV hi) hcw1 ⟨zJ.blind, vk_recv (adK := fun i => a (1000 + i)) (i := i) hE hi hS, fun U hU hW => ⟨rfl, hJ.moved hW hU⟩⟩ rfl rfl hl.1 rfl (lv_room (Nat.le_of_ble_eq_true rfl)) dJ0_indexOf_7cf53_14 ⟨Nat.le_refl _, Nat.le_refl _⟩) ?_
  refine W.eq (g2 := F0 m 17 ls [.int (Int32.ofNat (zlens.getD i 0)), .int 0, .int (nI n), .ref (adV i)]) rfl ?_
  have hcw2 : CallB (headSpec (zws yJ0_indexOf_7cf53 cJ0_indexOf_7cf53 3 (some .int)) { frames := 5, cells := 0, slots := 0, locals := 150 }).room s ([.ref (a (1000 + i)), .int (nI n), .int 0] : List Value).toArray RJ0 637 yJ1_indexOf_4cfef cJ1_indexOf_4cfef 4 (some .int) (zws yJ1_indexOf_4cfef cJ1_indexOf_4cfef 4 (some .int)) { frames := 3, cells := 0, slots := 0, locals := 80 } 0 0 4 ∧ (Cond.static yJ1_indexOf_4cfef).before ([.ref (a (1000 + i)), .int (nI n), .int 0] : List Value).toArray s = true :=
    ⟨callB_of 4 htb (zGood (fun _ h => h) zcJ_ix1) rfl rfl rfl (htb _ (zin_mem u9)) (htb _ (zin_mem w7)) (by decide +kernel) (by decide), htb _ (zin_mem w8)⟩
  refine W.callR (W.runS (As := [.ref (adV i), .int (nI n), .int 0, .int (Int32.ofNat (zlens.getD i 0))]) (rest := []) ⟨hx, hb, hml, hown, htb⟩ (cJ_ix1 l a adV hi hn) hcw2 ⟨zJ.blind, fun U hU hW => ⟨rfl, hJ.moved hW hU⟩⟩ rfl rfl hl.1 rfl (lv_room (Nat.le_of_ble_eq_true rfl)) dJ0_indexOf_7cf53_17 ⟨Nat.le_refl _, Nat.le_refl _⟩) ?_
  refine W.eq (g2 := F0 m 20 ls [.int (zixF (nI n) (zstr i) 0)]) rfl ?_
  refine lv_goto (tgt := 36) hx hb dJ0_indexOf_7cf53_20 (by decide) ?_
  exact W.iret hx hb hr (fun t ht hW => ⟨rfl, ht⟩) hS.2.2 dJ0_indexOf_7cf53_36
theorem cJ_indexOf (l : Launch) (a adV : Nat → Nat) {i n : Nat} (hi : i < 10) (hn : n < 256) : Met l yJ0_indexOf_0f7a4 (zws yJ0_indexOf_0f7a4 cJ0_indexOf_0f7a4 2 (some .int)) { frames := 7, cells := 0, slots := 0, locals := 200 } (va_Pc [.ref (a (1000 + i)), .int (nI n)] (zJ a adV)) (QcRead (zixF (nI n) (zstr i) 0)) 0 0 (fun _ => False) := by
  refine Met.ofW (cc := cJ0_indexOf_0f7a4) (maxL := 2) (ret := some .int) (by decide) rfl ?_
  intro p e s m args below meth c s₁ B hml hv
  obtain ⟨rfl, hJ⟩ := hv
  obtain ⟨hE, hZ, hQ⟩ := id hJ
  have hx := B.exec
  have hb := B.bytes
  have hr := B.returns
  have hts := atoms_spec (ws := zws yJ0_indexOf_0f7a4 cJ0_indexOf_0f7a4 2 (some .int)) B.pre
  have htb : ∀ w ∈ zTB, w.before ([.ref (a (1000 + i)), .int (nI n)] : List Value).toArray s = true := fun w h => hts w (List.mem_cons_of_mem _ h)
  have hown : s.vm.findClass RJ0 = some m.cls := findClass_of_methodNamed B.named
  have hlocks := B.notSynchronized
  have hS : va_S (fun _ => False) s.heap s.heap [] := va_S.rf
  obtain ⟨w1, w2, w3, w4, w5, w6, w7, w8⟩ := zj_w4
  obtain ⟨-, -, -, -, -, -, -, -, u9⟩ := zj_w2
  obtain ⟨v1, v2, v3, v4, v5, v6, v7, v8, v9, v10⟩ := zj_w
  have hl := lv_entry ([.ref (a (1000 + i)), .int (nI n)]) (n := 2) (Nat.le_of_ble_eq_true rfl)
  rw [lg_entry_eq]
  generalize (lg_sl ([.ref (a (1000 + i)), .int (nI n)]) ++ List.replicate (2 - (lg_sl ([.ref (a (1000 + i)), .int (nI n)])).length) Slot.unset).toArray = ls at hl ⊢
  have hl : lv_has ls 2 [(0, .ref (a (1000 + i))), (1, .int (nI n))] := hl
  refine lv_aload_n hx hb dJ0_indexOf_0f7a4_0 rfl (lv_at hl 0 rfl) ?_
  refine lv_iload_n hx hb dJ0_indexOf_0f7a4_1 rfl (lv_at hl 1 rfl) ?_
  refine lv_iconst (v := 0) hx hb dJ0_indexOf_0f7a4_2 (by decide) ?_
  have hcw : CallW (headSpec (zws yJ0_indexOf_0f7a4 cJ0_indexOf_0f7a4 2 (some .int)) { frames := 7, cells := 0, slots := 0, locals := 200 }).room s ([.ref (a (1000 + i)), .int (nI n)] : List Value).toArray RJ0 RJ0 633 yJ0_indexOf_7cf53 cJ0_indexOf_7cf53 3 (some .int) (zws yJ0_indexOf_7cf53 cJ0_indexOf_7cf53 3 (some .int)) { frames := 5, cells := 0, slots := 0, locals := 150 } 0 0 2 :=
    ⟨callB_of 2 htb (zGood (fun _ h => h) zcJ_ix2) rfl rfl rfl (htb _ (zin_mem v10)) (htb _ (zin_mem w1)) (by decide +kernel) (by decide), htb _ (zin_mem w2), htb _ (zin_mem w3)⟩
  refine W.callR (W.runV (As := [.int (nI n), .int 0]) (rest := []) (b := a (1000 + i)) ⟨hx, hb, hml, hown, htb⟩ (cJ_ix2 l a adV hi hn) hcw ⟨zJ.blind, vk_recv (adK := fun i => a (1000 + i)) (i := i) hE hi hS, fun U hU hW => ⟨rfl, hJ.moved hW hU⟩⟩ rfl rfl hl.1 rfl (lv_room (Nat.le_of_ble_eq_true rfl)) dJ0_indexOf_0f7a4_3 ⟨Nat.le_refl _, Nat.le_refl _⟩) ?_
  refine W.eq (g2 := F0 m 6 ls [.int (zixF (nI n) (zstr i) 0)]) rfl ?_
  exact W.iret hx hb hr (fun t ht hW => ⟨rfl, ht⟩) hS.2.2 dJ0_indexOf_0f7a4_6
end
section
-- numbers: what simp wants
theorem lt_litR {a k : Nat} (ha : a < 2 ^ 31) (hk : (OfNat.ofNat k : Nat) < 2 ^ 31) : (nI a < (no_index (OfNat.ofNat k) : Int32)) = (a < OfNat.ofNat k) := propext (nI_ltI ha hk)
theorem lt_litL {a k : Nat} (ha : a < 2 ^ 31) (hk : (OfNat.ofNat k : Nat) < 2 ^ 31) : ((no_index (OfNat.ofNat k) : Int32) < nI a) = (OfNat.ofNat k < a) := propext (nI_ltI hk ha)
theorem eq_litR {a k : Nat} (ha : a < 2 ^ 31) (hk : (OfNat.ofNat k : Nat) < 2 ^ 31) : (nI a = (no_index (OfNat.ofNat k) : Int32)) = (a = OfNat.ofNat k) := propext (nI_eq ha hk)
theorem eq_litL {a k : Nat} (ha : a < 2 ^ 31) (hk : (OfNat.ofNat k : Nat) < 2 ^ 31) : ((no_index (OfNat.ofNat k) : Int32) = nI a) = (OfNat.ofNat k = a) := propext (nI_eq hk ha)
theorem lt_nn {a k : Nat} (ha : a < 2 ^ 31) (hk : k < 2 ^ 31) : (nI a < nI k) = (a < k) := propext (nI_ltI ha hk)
theorem eq_nn {a k : Nat} (ha : a < 2 ^ 31) (hk : k < 2 ^ 31) : (nI a = nI k) = (a = k) := propext (nI_eq ha hk)
theorem lt_n0 {a : Nat} (ha : a < 2 ^ 31) : (nI a < 0) = False := eq_false (nI_pos ha)
theorem add_lit (a k : Nat) : nI a + (no_index (OfNat.ofNat k) : Int32) = nI (a + OfNat.ofNat k) := nI_add a k
theorem eq_m1 {a : Nat} (ha : a < 2 ^ 31) : (nI a = -1) = False := eq_false (fun h => nI_pos ha (by rw [h]; decide))
theorem eq_m1' {a : Nat} (ha : a < 2 ^ 31) : (-1 = nI a) = False := eq_false (fun h => nI_pos ha (by rw [← h]; decide))
theorem m1_lt {a : Nat} (ha : a < 2 ^ 31) : (-1 < nI a) = True := by
  refine eq_true ?_
  have : (nI a).toInt = (a : Int) := nI_toInt ha
  rw [Int32.lt_iff_toInt_lt, this]
  have : (-1 : Int32).toInt = -1 := by decide
  omega
theorem lit_ne {a b : Nat} (h : (OfNat.ofNat a : Nat) ≠ OfNat.ofNat b) (ha : (OfNat.ofNat a : Nat) < 2 ^ 31) (hb : (OfNat.ofNat b : Nat) < 2 ^ 31) : ((no_index (OfNat.ofNat a) : Int32) = (no_index (OfNat.ofNat b) : Int32)) = False := eq_false (fun h2 => h ((nI_eq ha hb).mp h2))
theorem lit_lt {a b : Nat} (ha : (OfNat.ofNat a : Nat) < 2 ^ 31) (hb : (OfNat.ofNat b : Nat) < 2 ^ 31) : ((no_index (OfNat.ofNat a) : Int32) < (no_index (OfNat.ofNat b) : Int32)) = ((OfNat.ofNat a : Nat) < OfNat.ofNat b) := propext (nI_ltI ha hb)
theorem s_add (d : Nat) (σ : zS) {a : Nat} (h : a ≤ 200) (hs : σ 24 5 = nI a) (x y z : Int32) : zM (d + 1) mX0_add [.inr (.inr 24), .inl x, .inl y, .inl z] σ = if a < 200 then some (1, 1, wr (wr (wr (wr (wr σ 25 a x) 26 a y) 27 a z) 28 a (-1)) 24 5 (nI (a + 1))) else some (1, 0, σ) := by
  rw [qX0_add_24, qX0_add_24_0]
  by_cases ha : a < 200
  · simp (disch := omega) only [lt_litR, lt_litL, eq_litR, eq_litL, lt_nn, eq_nn, lt_n0, z_cl, add_lit, eq_m1, eq_m1', m1_lt, false_or, or_false, if_pos, if_neg, zbI_some, zbV_some, wr_same, wr_cell, wr_slot, ne_eq, not_true_eq_false, not_false_eq_true, true_and, and_true, false_and, and_false, e10, e01, e00, if_true, if_false, Bool.false_eq_true, lit_ne, lit_lt, eq_self, hs]
  · simp (disch := omega) only [lt_litR, lt_litL, eq_litR, eq_litL, lt_nn, eq_nn, lt_n0, z_cl, add_lit, eq_m1, eq_m1', m1_lt, false_or, or_false, if_pos, if_neg, zbI_some, zbV_some, wr_same, wr_cell, wr_slot, ne_eq, not_true_eq_false, not_false_eq_true, true_and, and_true, false_and, and_false, e10, e01, e00, if_true, if_false, Bool.false_eq_true, lit_ne, lit_lt, eq_self, hs]
end
section
-- the reference's run, a move at a time: words
def kApp (τ : zS) (k r v : Int32) : zS := wr (wr (wr (wr (wr τ 50 (τ 38 35).toNatClampNeg k) 51 (τ 38 35).toNatClampNeg r) 52 (τ 38 35).toNatClampNeg v) 38 35 (τ 38 35 + 1)) 38 33 (τ 38 35 + 1)
def kBeg (τ : zS) : zS := if τ 38 20 = 200 then wr τ 38 31 5 else kApp (wr (wr (wr τ 38 34 1) 38 32 (τ 38 20)) 38 35 (τ 38 20)) 0 0 (τ 38 39)
def kC (τ : zS) (p : Nat) : Bool := decide (nI p < τ 38 20 ∧ ¬ τ 50 p < 1 ∧ ¬ 4 < τ 50 p)
def kSkip : Nat → zS → zS
  | 0, τ => τ
  | f + 1, τ => if τ 38 33 < τ 38 20 ∧ ¬ τ 50 (τ 38 33).toNatClampNeg = 0 then kSkip f (wr τ 38 33 (τ 38 33 + 1)) else τ
def kGo2 (τ : zS) : zS := if τ 38 33 = τ 38 20 then (if τ 38 38 = 0 then kBeg (wr τ 38 36 0) else wr (wr τ 38 36 0) 38 31 4) else wr (wr (wr τ 38 36 0) 38 32 (τ 38 33)) 38 33 (τ 38 33 + 1)
def kGo (τ : zS) : zS := if τ 38 34 = 0 then (if kC τ (τ 38 33).toNatClampNeg then wr (wr τ 38 31 2) 38 40 (τ 38 33) else kGo2 (kSkip 201 τ)) else wr τ 38 31 9
def kCmd (τ : zS) (k r v : Int32) : Int32 × zS := if τ 38 34 = 0 then (if kC τ (τ 38 33).toNatClampNeg ∧ τ 50 (τ 38 33).toNatClampNeg = k ∧ τ 51 (τ 38 33).toNatClampNeg = r ∧ τ 52 (τ 38 33).toNatClampNeg = v then (τ 38 33, wr τ 38 33 (τ 38 33 + 1)) else (-1, wr (wr τ 38 31 2) 38 40 (τ 38 33))) else (if τ 38 35 = 200 then (-1, wr τ 38 31 5) else (τ 38 35, kApp τ k r v))
/-- what the end of e gave, looked for at k and on -/
def kEnd (τ : zS) (e : Int32) : Nat → Nat → Option Int32
  | 0, _ => none
  | c + 1, k => if ¬ τ 50 k < 5 ∧ ¬ 7 < τ 50 k ∧ τ 51 k = e then some (if τ 50 k = 5 then τ 52 k else if τ 50 k = 6 then -1 else 0) else kEnd τ e c (k + 1)
def kDone (τ : zS) (e : Int32) : Option Int32 := if ¬ e < 0 ∧ e < τ 38 33 ∧ (τ 50 e.toNatClampNeg = 1 ∨ τ 50 e.toNatClampNeg = 2) then kEnd τ e ((τ 38 32).toNatClampNeg - (e.toNatClampNeg + 1)) (e.toNatClampNeg + 1) else some (-2)
def kSig (τ : zS) : Nat → Nat → Nat → Option Int32
  | 0, _, _ => none
  | c + 1, m, k => if τ 50 k = 8 then (if nI m = τ 38 37 then some (τ 52 k) else kSig τ c (m + 1) (k + 1)) else kSig τ c m (k + 1)
/-- is a wait over: WAIT 9, SIG 5, ANY 3 -/
def kRdy (τ : zS) (o x y : Int32) : Bool × zS :=
  if o = 9 then ((kDone τ (τ 54 x.toNatClampNeg)).isSome, wr τ 38 44 ((kDone τ (τ 54 x.toNatClampNeg)).getD (-2)))
  else if o = 5 then (match kSig τ (τ 38 32).toNatClampNeg 0 0 with
    | some g => (true, wr τ 38 44 g)
    | none => (false, τ))
  else if (kDone τ (τ 54 x.toNatClampNeg)).isSome then (true, wr τ 38 44 1) else ((kDone τ (τ 54 y.toNatClampNeg)).isSome, wr τ 38 44 2)
-- the reference's methods are these
theorem wr_wr (σ : zS) (c k : Nat) (v w : Int32) : wr (wr σ c k v) c k w = wr σ c k w := by
  funext d j
  by_cases h : d = c
  · subst h
    by_cases h2 : j = k
    · subst h2; rw [wr_same, wr_same]
    · rw [wr_slot _ _ _ h2, wr_slot _ _ _ h2, wr_slot _ _ _ h2]
  · rw [wr_cell _ _ _ h, wr_cell _ _ _ h, wr_cell _ _ _ h]
theorem wr_id (σ : zS) (c k : Nat) : wr σ c k (σ c k) = σ := by
  funext d j
  by_cases h : d = c
  · subst h
    by_cases h2 : j = k
    · subst h2; rw [wr_same]
    · rw [wr_slot _ _ _ h2]
  · rw [wr_cell _ _ _ h]
theorem add0 (x : Int32) : x + 0 = x := Int32.add_zero x
theorem sub_11 (x : Int32) : x + 1 - 1 = x := Int32.add_sub_cancel x 1
theorem m_append (d : Nat) (τ : zS) (k r v : Int32) {t : Nat} (h : τ 38 35 = nI t) (ht : t ≤ 200) : zM (d + 1) mX8_append [.inr (.inr 38), .inl k, .inl r, .inl v] τ = some (0, 0, kApp τ k r v) := by
  rw [qX8_append_38, qX8_append_38_0, kApp]
  simp (disch := omega) only [lt_litR, lt_litL, eq_litR, eq_litL, lt_nn, eq_nn, lt_n0, z_cl, add_lit, eq_m1, eq_m1', m1_lt, false_or, or_false, if_pos, if_neg, zbI_some, zbV_some, wr_same, wr_cell, wr_slot, ne_eq, not_true_eq_false, not_false_eq_true, true_and, and_true, false_and, and_false, e10, e01, e00, if_true, if_false, Bool.false_eq_true, lit_ne, lit_lt, eq_self, h]
theorem m_begins (d : Nat) (τ : zS) {n : Nat} (h : τ 38 20 = nI n) (hn : n ≤ 200) : zM (d + 2) mX8_begins [.inr (.inr 38)] τ = some (0, 0, kBeg τ) := by
  rw [qX8_begins_38, qX8_begins_38_0, kBeg]
  by_cases h2 : n = 200
  · simp (disch := omega) only [lt_litR, lt_litL, eq_litR, eq_litL, lt_nn, eq_nn, lt_n0, z_cl, add_lit, eq_m1, eq_m1', m1_lt, false_or, or_false, if_pos, if_neg, zbI_some, zbV_some, wr_same, wr_cell, wr_slot, ne_eq, not_true_eq_false, not_false_eq_true, true_and, and_true, false_and, and_false, e10, e01, e00, if_true, if_false, Bool.false_eq_true, lit_ne, lit_lt, eq_self, h, h2]
  · rw [m_append (t := n) _ _ _ _ _ (by rw [wr_same, h]) hn]
    simp (disch := omega) only [lt_litR, lt_litL, eq_litR, eq_litL, lt_nn, eq_nn, lt_n0, z_cl, add_lit, eq_m1, eq_m1', m1_lt, false_or, or_false, if_pos, if_neg, zbI_some, zbV_some, wr_same, wr_cell, wr_slot, ne_eq, not_true_eq_false, not_false_eq_true, true_and, and_true, false_and, and_false, e10, e01, e00, if_true, if_false, Bool.false_eq_true, lit_ne, lit_lt, eq_self, h, h2]
theorem m_isCommand (d : Nat) (τ : zS) {n p : Nat} (h : τ 38 20 = nI n) (hn : n ≤ 200) (hp : p ≤ 201) : zM (d + 1) mX8_isCommand [.inr (.inr 38), .inl (nI p)] τ = some (1, if kC τ p then 1 else 0, τ) := by
  rw [qX8_isCommand_38, qX8_isCommand_38_0]
  by_cases h1 : p < n
  · by_cases h2 : τ 50 p < 1
    · simp (disch := omega) only [lt_litR, lt_litL, eq_litR, eq_litL, lt_nn, eq_nn, lt_n0, z_cl, add_lit, eq_m1, eq_m1', m1_lt, false_or, or_false, if_pos, if_neg, zbI_some, zbV_some, wr_same, wr_cell, wr_slot, ne_eq, not_true_eq_false, not_false_eq_true, true_and, and_true, false_and, and_false, e10, e01, e00, if_true, if_false, Bool.false_eq_true, lit_ne, lit_lt, eq_self, kC, decide_eq_true_eq, h, h1, h2]
    · by_cases h3 : 4 < τ 50 p
      · simp (disch := omega) only [lt_litR, lt_litL, eq_litR, eq_litL, lt_nn, eq_nn, lt_n0, z_cl, add_lit, eq_m1, eq_m1', m1_lt, false_or, or_false, if_pos, if_neg, zbI_some, zbV_some, wr_same, wr_cell, wr_slot, ne_eq, not_true_eq_false, not_false_eq_true, true_and, and_true, false_and, and_false, e10, e01, e00, if_true, if_false, Bool.false_eq_true, lit_ne, lit_lt, eq_self, kC, decide_eq_true_eq, h, h1, h2, h3]
      · simp (disch := omega) only [lt_litR, lt_litL, eq_litR, eq_litL, lt_nn, eq_nn, lt_n0, z_cl, add_lit, eq_m1, eq_m1', m1_lt, false_or, or_false, if_pos, if_neg, zbI_some, zbV_some, wr_same, wr_cell, wr_slot, ne_eq, not_true_eq_false, not_false_eq_true, true_and, and_true, false_and, and_false, e10, e01, e00, if_true, if_false, Bool.false_eq_true, lit_ne, lit_lt, eq_self, kC, decide_eq_true_eq, h, h1, h2, h3]
  · simp (disch := omega) only [lt_litR, lt_litL, eq_litR, eq_litL, lt_nn, eq_nn, lt_n0, z_cl, add_lit, eq_m1, eq_m1', m1_lt, false_or, or_false, if_pos, if_neg, zbI_some, zbV_some, wr_same, wr_cell, wr_slot, ne_eq, not_true_eq_false, not_false_eq_true, true_and, and_true, false_and, and_false, e10, e01, e00, if_true, if_false, Bool.false_eq_true, lit_ne, lit_lt, eq_self, kC, decide_eq_true_eq, h, h1]
theorem m_step (d : Nat) (τ : zS) : zM (d + 1) mX8_step [.inr (.inr 38)] τ = if 1000 < ((τ 38 36) + 1) then (some (1, 0, wr (wr τ 38 36 ((τ 38 36) + 1)) 38 31 3)) else (if (τ 38 31) = 0 then (some (1, 1, wr τ 38 36 ((τ 38 36) + 1))) else (some (1, 0, wr τ 38 36 ((τ 38 36) + 1)))) := by
  rw [qX8_step_38, qX8_step_38_0]

theorem kSkip_stop {f : Nat} {τ : zS} (h : ¬ (τ 38 33 < τ 38 20 ∧ ¬ τ 50 (τ 38 33).toNatClampNeg = 0)) : kSkip f τ = τ := by
  cases f with
  | zero => rfl
  | succ f => rw [kSkip, if_neg h]
theorem m_goLoop (d : Nat) : ∀ (f m : Nat) (τ : zS) (n p : Nat), τ 38 20 = nI n → n ≤ 200 → τ 38 33 = nI p → p ≤ n → n - p ≤ f → f < m → zexec zc_X8_goOn zu_X8_goOn (zM (d + 2)) m 39 [.inr (.inr 38)] τ = some (0, 0, kGo2 (kSkip f τ)) := by
  intro f
  induction f with
  | zero =>
    intro m τ n p h hn hp hpn hf hm
    obtain ⟨m, rfl⟩ : ∃ k, m = k + 1 := ⟨m - 1, by omega⟩
    obtain rfl : p = n := by omega
    rw [qX8_goOn_38_39, kSkip, kGo2]
    by_cases h2 : τ 38 38 = 0
    · rw [m_begins (n := p) d _ (by rw [wr_slot _ _ _ (by omega), h]) hn]
      simp (disch := omega) only [lt_litR, lt_litL, eq_litR, eq_litL, lt_nn, eq_nn, lt_n0, z_cl, add_lit, eq_m1, eq_m1', m1_lt, false_or, or_false, if_pos, if_neg, zbI_some, zbV_some, wr_same, wr_cell, wr_slot, ne_eq, not_true_eq_false, not_false_eq_true, true_and, and_true, false_and, and_false, e10, e01, e00, if_true, if_false, Bool.false_eq_true, lit_ne, lit_lt, eq_self, h, hp, h2]
    · simp (disch := omega) only [lt_litR, lt_litL, eq_litR, eq_litL, lt_nn, eq_nn, lt_n0, z_cl, add_lit, eq_m1, eq_m1', m1_lt, false_or, or_false, if_pos, if_neg, zbI_some, zbV_some, wr_same, wr_cell, wr_slot, ne_eq, not_true_eq_false, not_false_eq_true, true_and, and_true, false_and, and_false, e10, e01, e00, if_true, if_false, Bool.false_eq_true, lit_ne, lit_lt, eq_self, h, hp, h2]
  | succ f ih =>
    intro m τ n p h hn hp hpn hf hm
    obtain ⟨m, rfl⟩ : ∃ k, m = k + 1 := ⟨m - 1, by omega⟩
    rw [qX8_goOn_38_39]
    by_cases h1 : p < n
    · by_cases h3 : τ 50 p = 0
      · rw [kSkip_stop (by simp (disch := omega) only [lt_litR, lt_litL, eq_litR, eq_litL, lt_nn, eq_nn, lt_n0, z_cl, add_lit, eq_m1, eq_m1', m1_lt, false_or, or_false, if_pos, if_neg, zbI_some, zbV_some, wr_same, wr_cell, wr_slot, ne_eq, not_true_eq_false, not_false_eq_true, true_and, and_true, false_and, and_false, e10, e01, e00, if_true, if_false, Bool.false_eq_true, lit_ne, lit_lt, eq_self, h, hp, h3])]
        rw [kGo2]
        simp (disch := omega) only [lt_litR, lt_litL, eq_litR, eq_litL, lt_nn, eq_nn, lt_n0, z_cl, add_lit, eq_m1, eq_m1', m1_lt, false_or, or_false, if_pos, if_neg, zbI_some, zbV_some, wr_same, wr_cell, wr_slot, ne_eq, not_true_eq_false, not_false_eq_true, true_and, and_true, false_and, and_false, e10, e01, e00, if_true, if_false, Bool.false_eq_true, lit_ne, lit_lt, eq_self, h, hp, h1, h3]
      · rw [ih m (wr τ 38 33 (τ 38 33 + 1)) n (p + 1) (by simp (disch := omega) only [lt_litR, lt_litL, eq_litR, eq_litL, lt_nn, eq_nn, lt_n0, z_cl, add_lit, eq_m1, eq_m1', m1_lt, false_or, or_false, if_pos, if_neg, zbI_some, zbV_some, wr_same, wr_cell, wr_slot, ne_eq, not_true_eq_false, not_false_eq_true, true_and, and_true, false_and, and_false, e10, e01, e00, if_true, if_false, Bool.false_eq_true, lit_ne, lit_lt, eq_self, h]) hn (by simp (disch := omega) only [lt_litR, lt_litL, eq_litR, eq_litL, lt_nn, eq_nn, lt_n0, z_cl, add_lit, eq_m1, eq_m1', m1_lt, false_or, or_false, if_pos, if_neg, zbI_some, zbV_some, wr_same, wr_cell, wr_slot, ne_eq, not_true_eq_false, not_false_eq_true, true_and, and_true, false_and, and_false, e10, e01, e00, if_true, if_false, Bool.false_eq_true, lit_ne, lit_lt, eq_self, hp]) (by omega) (by omega) (by omega), kSkip]
        simp (disch := omega) only [lt_litR, lt_litL, eq_litR, eq_litL, lt_nn, eq_nn, lt_n0, z_cl, add_lit, eq_m1, eq_m1', m1_lt, false_or, or_false, if_pos, if_neg, zbI_some, zbV_some, wr_same, wr_cell, wr_slot, ne_eq, not_true_eq_false, not_false_eq_true, true_and, and_true, false_and, and_false, e10, e01, e00, if_true, if_false, Bool.false_eq_true, lit_ne, lit_lt, eq_self, h, hp, h1, h3]
    · obtain rfl : p = n := by omega
      rw [kSkip_stop (by simp (disch := omega) only [lt_litR, lt_litL, eq_litR, eq_litL, lt_nn, eq_nn, lt_n0, z_cl, add_lit, eq_m1, eq_m1', m1_lt, false_or, or_false, if_pos, if_neg, zbI_some, zbV_some, wr_same, wr_cell, wr_slot, ne_eq, not_true_eq_false, not_false_eq_true, true_and, and_true, false_and, and_false, e10, e01, e00, if_true, if_false, Bool.false_eq_true, lit_ne, lit_lt, eq_self, h, hp, Nat.lt_irrefl]), kGo2]
      by_cases h2 : τ 38 38 = 0
      · rw [m_begins (n := p) d _ (by rw [wr_slot _ _ _ (by omega), h]) hn]
        simp (disch := omega) only [lt_litR, lt_litL, eq_litR, eq_litL, lt_nn, eq_nn, lt_n0, z_cl, add_lit, eq_m1, eq_m1', m1_lt, false_or, or_false, if_pos, if_neg, zbI_some, zbV_some, wr_same, wr_cell, wr_slot, ne_eq, not_true_eq_false, not_false_eq_true, true_and, and_true, false_and, and_false, e10, e01, e00, if_true, if_false, Bool.false_eq_true, lit_ne, lit_lt, eq_self, h, hp, h2]
      · simp (disch := omega) only [lt_litR, lt_litL, eq_litR, eq_litL, lt_nn, eq_nn, lt_n0, z_cl, add_lit, eq_m1, eq_m1', m1_lt, false_or, or_false, if_pos, if_neg, zbI_some, zbV_some, wr_same, wr_cell, wr_slot, ne_eq, not_true_eq_false, not_false_eq_true, true_and, and_true, false_and, and_false, e10, e01, e00, if_true, if_false, Bool.false_eq_true, lit_ne, lit_lt, eq_self, h, hp, h2]
theorem m_goOn (d : Nat) (τ : zS) {n p : Nat} (h : τ 38 20 = nI n) (hn : n ≤ 200) (hp : τ 38 33 = nI p) (hpn : τ 38 34 = 0 → p ≤ n) : zM (d + 3) mX8_goOn [.inr (.inr 38)] τ = some (0, 0, kGo τ) := by
  rw [qX8_goOn_38, qX8_goOn_38_0, kGo]
  by_cases hl : τ 38 34 = 0
  · have h5 := hpn hl
    rw [hp, m_isCommand (n := n) _ _ h hn (by omega), z_cl (by omega)]
    by_cases hc : kC τ p
    · simp only [hl, hc, zbI_some, if_true, e10, if_false, hp]
    · simp only [hl, hc, zbI_some, if_true, e00, if_false, Bool.false_eq_true]
      rw [m_goLoop d 201 _ τ n p h hn hp h5 (by omega) (by omega)]
  · simp only [hl, if_false]

theorem m_command (d : Nat) (τ : zS) (k r v : Int32) {n p : Nat} (h : τ 38 20 = nI n) (hn : n ≤ 200) (hp : τ 38 33 = nI p) (hpn : τ 38 34 = 0 → p ≤ n) (hlv : ¬ τ 38 34 = 0 → ∃ t : Nat, t ≤ 200 ∧ τ 38 35 = nI t) : zM (d + 2) mX8_command [.inr (.inr 38), .inl k, .inl r, .inl v] τ = some (1, (kCmd τ k r v).1, (kCmd τ k r v).2) := by
  rw [qX8_command_38, qX8_command_38_0, kCmd]
  by_cases hl : τ 38 34 = 0
  · have h5 := hpn hl
    rw [hp, m_isCommand (n := n) _ _ h hn (by omega), z_cl (by omega)]
    by_cases hc : kC τ p
    · have h6 : p < n := by
        have := hc
        simp only [kC, decide_eq_true_eq, h] at this
        exact (nI_ltI (by omega) (by omega)).mp this.1
      by_cases h1 : τ 50 p = k
      · by_cases h2 : τ 51 p = r
        · by_cases h3 : τ 52 p = v
          · simp (disch := omega) only [lt_litR, lt_litL, eq_litR, eq_litL, lt_nn, eq_nn, lt_n0, z_cl, add_lit, eq_m1, eq_m1', m1_lt, false_or, or_false, if_pos, if_neg, zbI_some, zbV_some, wr_same, wr_cell, wr_slot, ne_eq, not_true_eq_false, not_false_eq_true, true_and, and_true, false_and, and_false, e10, e01, e00, if_true, if_false, Bool.false_eq_true, lit_ne, lit_lt, eq_self, hl, hc, hp, h1, h2, h3, nI_pred]
          · simp (disch := omega) only [lt_litR, lt_litL, eq_litR, eq_litL, lt_nn, eq_nn, lt_n0, z_cl, add_lit, eq_m1, eq_m1', m1_lt, false_or, or_false, if_pos, if_neg, zbI_some, zbV_some, wr_same, wr_cell, wr_slot, ne_eq, not_true_eq_false, not_false_eq_true, true_and, and_true, false_and, and_false, e10, e01, e00, if_true, if_false, Bool.false_eq_true, lit_ne, lit_lt, eq_self, hl, hc, hp, h1, h2, h3]
        · simp (disch := omega) only [lt_litR, lt_litL, eq_litR, eq_litL, lt_nn, eq_nn, lt_n0, z_cl, add_lit, eq_m1, eq_m1', m1_lt, false_or, or_false, if_pos, if_neg, zbI_some, zbV_some, wr_same, wr_cell, wr_slot, ne_eq, not_true_eq_false, not_false_eq_true, true_and, and_true, false_and, and_false, e10, e01, e00, if_true, if_false, Bool.false_eq_true, lit_ne, lit_lt, eq_self, hl, hc, hp, h1, h2]
      · simp (disch := omega) only [lt_litR, lt_litL, eq_litR, eq_litL, lt_nn, eq_nn, lt_n0, z_cl, add_lit, eq_m1, eq_m1', m1_lt, false_or, or_false, if_pos, if_neg, zbI_some, zbV_some, wr_same, wr_cell, wr_slot, ne_eq, not_true_eq_false, not_false_eq_true, true_and, and_true, false_and, and_false, e10, e01, e00, if_true, if_false, Bool.false_eq_true, lit_ne, lit_lt, eq_self, hl, hc, hp, h1]
    · simp (disch := omega) only [lt_litR, lt_litL, eq_litR, eq_litL, lt_nn, eq_nn, lt_n0, z_cl, add_lit, eq_m1, eq_m1', m1_lt, false_or, or_false, if_pos, if_neg, zbI_some, zbV_some, wr_same, wr_cell, wr_slot, ne_eq, not_true_eq_false, not_false_eq_true, true_and, and_true, false_and, and_false, e10, e01, e00, if_true, if_false, Bool.false_eq_true, lit_ne, lit_lt, eq_self, hl, hc, hp]
  · obtain ⟨t, ht, htt⟩ := hlv hl
    rw [m_append (t := t) _ _ _ _ _ htt ht]
    by_cases h1 : t = 200
    · simp (disch := omega) only [lt_litR, lt_litL, eq_litR, eq_litL, lt_nn, eq_nn, lt_n0, z_cl, add_lit, eq_m1, eq_m1', m1_lt, false_or, or_false, if_pos, if_neg, zbI_some, zbV_some, wr_same, wr_cell, wr_slot, ne_eq, not_true_eq_false, not_false_eq_true, true_and, and_true, false_and, and_false, e10, e01, e00, if_true, if_false, Bool.false_eq_true, lit_ne, lit_lt, eq_self, hl, htt, h1]
    · simp (disch := omega) only [lt_litR, lt_litL, eq_litR, eq_litL, lt_nn, eq_nn, lt_n0, z_cl, add_lit, eq_m1, eq_m1', m1_lt, false_or, or_false, if_pos, if_neg, zbI_some, zbV_some, wr_same, wr_cell, wr_slot, ne_eq, not_true_eq_false, not_false_eq_true, true_and, and_true, false_and, and_false, e10, e01, e00, if_true, if_false, Bool.false_eq_true, lit_ne, lit_lt, eq_self, hl, htt, h1, kApp, nI_pred]
theorem m_doneLoop (d : Nat) : ∀ (f m : Nat) (τ : zS) (e : Int32) (b k : Nat), τ 38 32 = nI b → b ≤ 201 → k ≤ 300 → b - k = f → f < m → zexec zc_X8_isDone zu_X8_isDone (zM d) m 44 [.inr (.inr 38), .inl e, .inl (nI k)] τ = match kEnd τ e f k with
    | some g => some (1, 1, wr τ 38 44 g)
    | none => some (1, 0, τ) := by
  intro f
  induction f with
  | zero =>
    intro m τ e b k h hb hk hf hm
    obtain ⟨m, rfl⟩ : ∃ k, m = k + 1 := ⟨m - 1, by omega⟩
    rw [qX8_isDone_38_44, kEnd]
    simp (disch := omega) only [lt_litR, lt_litL, eq_litR, eq_litL, lt_nn, eq_nn, lt_n0, z_cl, add_lit, eq_m1, eq_m1', m1_lt, false_or, or_false, if_pos, if_neg, zbI_some, zbV_some, wr_same, wr_cell, wr_slot, ne_eq, not_true_eq_false, not_false_eq_true, true_and, and_true, false_and, and_false, e10, e01, e00, if_true, if_false, Bool.false_eq_true, lit_ne, lit_lt, eq_self, h]
  | succ f ih =>
    intro m τ e b k h hb hk hf hm
    obtain ⟨m, rfl⟩ : ∃ k, m = k + 1 := ⟨m - 1, by omega⟩
    rw [qX8_isDone_38_44, kEnd]
    have hih := ih m τ e b (k + 1) h hb (by omega) (by omega) (by omega)
    by_cases h1 : τ 50 k < 5
    · simp (disch := omega) only [lt_litR, lt_litL, eq_litR, eq_litL, lt_nn, eq_nn, lt_n0, z_cl, add_lit, eq_m1, eq_m1', m1_lt, false_or, or_false, if_pos, if_neg, zbI_some, zbV_some, wr_same, wr_cell, wr_slot, ne_eq, not_true_eq_false, not_false_eq_true, true_and, and_true, false_and, and_false, e10, e01, e00, if_true, if_false, Bool.false_eq_true, lit_ne, lit_lt, eq_self, h, h1, hih]
    · by_cases h2 : 7 < τ 50 k
      · simp (disch := omega) only [lt_litR, lt_litL, eq_litR, eq_litL, lt_nn, eq_nn, lt_n0, z_cl, add_lit, eq_m1, eq_m1', m1_lt, false_or, or_false, if_pos, if_neg, zbI_some, zbV_some, wr_same, wr_cell, wr_slot, ne_eq, not_true_eq_false, not_false_eq_true, true_and, and_true, false_and, and_false, e10, e01, e00, if_true, if_false, Bool.false_eq_true, lit_ne, lit_lt, eq_self, h, h1, h2, hih]
      · by_cases h3 : τ 51 k = e
        · by_cases h4 : τ 50 k = 5
          · simp (disch := omega) only [lt_litR, lt_litL, eq_litR, eq_litL, lt_nn, eq_nn, lt_n0, z_cl, add_lit, eq_m1, eq_m1', m1_lt, false_or, or_false, if_pos, if_neg, zbI_some, zbV_some, wr_same, wr_cell, wr_slot, ne_eq, not_true_eq_false, not_false_eq_true, true_and, and_true, false_and, and_false, e10, e01, e00, if_true, if_false, Bool.false_eq_true, lit_ne, lit_lt, eq_self, h, h1, h2, eq_true h3, eq_true h4]
          · by_cases h5 : τ 50 k = 6
            · simp (disch := omega) only [lt_litR, lt_litL, eq_litR, eq_litL, lt_nn, eq_nn, lt_n0, z_cl, add_lit, eq_m1, eq_m1', m1_lt, false_or, or_false, if_pos, if_neg, zbI_some, zbV_some, wr_same, wr_cell, wr_slot, ne_eq, not_true_eq_false, not_false_eq_true, true_and, and_true, false_and, and_false, e10, e01, e00, if_true, if_false, Bool.false_eq_true, lit_ne, lit_lt, eq_self, h, h1, h2, eq_true h3, h4, eq_true h5]
            · simp (disch := omega) only [lt_litR, lt_litL, eq_litR, eq_litL, lt_nn, eq_nn, lt_n0, z_cl, add_lit, eq_m1, eq_m1', m1_lt, false_or, or_false, if_pos, if_neg, zbI_some, zbV_some, wr_same, wr_cell, wr_slot, ne_eq, not_true_eq_false, not_false_eq_true, true_and, and_true, false_and, and_false, e10, e01, e00, if_true, if_false, Bool.false_eq_true, lit_ne, lit_lt, eq_self, h, h1, h2, eq_true h3, h4, h5]
        · simp (disch := omega) only [lt_litR, lt_litL, eq_litR, eq_litL, lt_nn, eq_nn, lt_n0, z_cl, add_lit, eq_m1, eq_m1', m1_lt, false_or, or_false, if_pos, if_neg, zbI_some, zbV_some, wr_same, wr_cell, wr_slot, ne_eq, not_true_eq_false, not_false_eq_true, true_and, and_true, false_and, and_false, e10, e01, e00, if_true, if_false, Bool.false_eq_true, lit_ne, lit_lt, eq_self, h, h1, h2, h3, hih]
theorem kEnd_44 (τ : zS) (g e : Int32) : ∀ c k, kEnd (wr τ 38 44 g) e c k = kEnd τ e c k := by
  intro c
  induction c with
  | zero => intro k; rfl
  | succ c ih => intro k; rw [kEnd, kEnd, ih]; simp (disch := omega) only [lt_litR, lt_litL, eq_litR, eq_litL, lt_nn, eq_nn, lt_n0, z_cl, add_lit, eq_m1, eq_m1', m1_lt, false_or, or_false, if_pos, if_neg, zbI_some, zbV_some, wr_same, wr_cell, wr_slot, ne_eq, not_true_eq_false, not_false_eq_true, true_and, and_true, false_and, and_false, e10, e01, e00, if_true, if_false, Bool.false_eq_true, lit_ne, lit_lt, eq_self]
theorem m_isDone (d : Nat) (τ : zS) (e : Int32) {p b : Nat} (hp : τ 38 33 = nI p) (hp2 : p ≤ 200) (hb : τ 38 32 = nI b) (hb2 : b ≤ 201) : zM (d + 1) mX8_isDone [.inr (.inr 38), .inl e] τ = some (1, if (kDone τ e).isSome then 1 else 0, wr τ 38 44 ((kDone τ e).getD (-2))) := by
  rw [qX8_isDone_38, qX8_isDone_38_0, kDone]
  by_cases h1 : e < 0
  · simp [h1]
  · obtain ⟨j, hj, rfl⟩ := nI_of h1
    by_cases h2 : j < p
    · have hloop := m_doneLoop d (b - (j + 1)) 999999 (wr τ 38 44 (-2)) (nI j) b (j + 1) (by simp (disch := omega) only [lt_litR, lt_litL, eq_litR, eq_litL, lt_nn, eq_nn, lt_n0, z_cl, add_lit, eq_m1, eq_m1', m1_lt, false_or, or_false, if_pos, if_neg, zbI_some, zbV_some, wr_same, wr_cell, wr_slot, ne_eq, not_true_eq_false, not_false_eq_true, true_and, and_true, false_and, and_false, e10, e01, e00, if_true, if_false, Bool.false_eq_true, lit_ne, lit_lt, eq_self, hb]) hb2 (by omega) rfl (by omega)
      rw [kEnd_44] at hloop
      by_cases h3 : τ 50 j = 1
      · simp (disch := omega) only [lt_litR, lt_litL, eq_litR, eq_litL, lt_nn, eq_nn, lt_n0, z_cl, add_lit, eq_m1, eq_m1', m1_lt, false_or, or_false, if_pos, if_neg, zbI_some, zbV_some, wr_same, wr_cell, wr_slot, ne_eq, not_true_eq_false, not_false_eq_true, true_and, and_true, false_and, and_false, e10, e01, e00, if_true, if_false, Bool.false_eq_true, lit_ne, lit_lt, eq_self, hp, hb, eq_true h3, hloop, true_or]
        cases kEnd τ (nI j) (b - (j + 1)) (j + 1) with
        | none => simp
        | some g => simp [wr_wr]
      · by_cases h4 : τ 50 j = 2
        · simp (disch := omega) only [lt_litR, lt_litL, eq_litR, eq_litL, lt_nn, eq_nn, lt_n0, z_cl, add_lit, eq_m1, eq_m1', m1_lt, false_or, or_false, if_pos, if_neg, zbI_some, zbV_some, wr_same, wr_cell, wr_slot, ne_eq, not_true_eq_false, not_false_eq_true, true_and, and_true, false_and, and_false, e10, e01, e00, if_true, if_false, Bool.false_eq_true, lit_ne, lit_lt, eq_self, hp, hb, h3, eq_true h4, hloop, or_true]
          cases kEnd τ (nI j) (b - (j + 1)) (j + 1) with
          | none => simp
          | some g => simp [wr_wr]
        · simp (disch := omega) only [lt_litR, lt_litL, eq_litR, eq_litL, lt_nn, eq_nn, lt_n0, z_cl, add_lit, eq_m1, eq_m1', m1_lt, false_or, or_false, if_pos, if_neg, zbI_some, zbV_some, wr_same, wr_cell, wr_slot, ne_eq, not_true_eq_false, not_false_eq_true, true_and, and_true, false_and, and_false, e10, e01, e00, if_true, if_false, Bool.false_eq_true, lit_ne, lit_lt, eq_self, hp, hb, h3, h4]
          simp
    · simp (disch := omega) only [lt_litR, lt_litL, eq_litR, eq_litL, lt_nn, eq_nn, lt_n0, z_cl, add_lit, eq_m1, eq_m1', m1_lt, false_or, or_false, if_pos, if_neg, zbI_some, zbV_some, wr_same, wr_cell, wr_slot, ne_eq, not_true_eq_false, not_false_eq_true, true_and, and_true, false_and, and_false, e10, e01, e00, if_true, if_false, Bool.false_eq_true, lit_ne, lit_lt, eq_self, hp, hb]
      simp
theorem m_sigLoop (d : Nat) : ∀ (f m : Nat) (τ : zS) (b c k : Nat), τ 38 32 = nI b → b ≤ 201 → k ≤ 300 → b - k = f → f < m → zexec zc_X8_hasSignal zu_X8_hasSignal (zM d) m 4 [.inr (.inr 38), .inl (nI c), .inl (nI k)] τ = match kSig τ f c k with
    | some g => some (1, 1, wr τ 38 44 g)
    | none => some (1, 0, τ) := by
  intro f
  induction f with
  | zero =>
    intro m τ b c k h hb hk hf hm
    obtain ⟨m, rfl⟩ : ∃ k, m = k + 1 := ⟨m - 1, by omega⟩
    rw [qX8_hasSignal_38_4, kSig]
    simp (disch := omega) only [lt_litR, lt_litL, eq_litR, eq_litL, lt_nn, eq_nn, lt_n0, z_cl, add_lit, eq_m1, eq_m1', m1_lt, false_or, or_false, if_pos, if_neg, zbI_some, zbV_some, wr_same, wr_cell, wr_slot, ne_eq, not_true_eq_false, not_false_eq_true, true_and, and_true, false_and, and_false, e10, e01, e00, if_true, if_false, Bool.false_eq_true, lit_ne, lit_lt, eq_self, h]
  | succ f ih =>
    intro m τ b c k h hb hk hf hm
    obtain ⟨m, rfl⟩ : ∃ k, m = k + 1 := ⟨m - 1, by omega⟩
    rw [qX8_hasSignal_38_4, kSig]
    by_cases h1 : τ 50 k = 8
    · by_cases h2 : nI c = τ 38 37
      · simp (disch := omega) only [lt_litR, lt_litL, eq_litR, eq_litL, lt_nn, eq_nn, lt_n0, z_cl, add_lit, eq_m1, eq_m1', m1_lt, false_or, or_false, if_pos, if_neg, zbI_some, zbV_some, wr_same, wr_cell, wr_slot, ne_eq, not_true_eq_false, not_false_eq_true, true_and, and_true, false_and, and_false, e10, e01, e00, if_true, if_false, Bool.false_eq_true, lit_ne, lit_lt, eq_self, h, eq_true h1, eq_true h2]
      · have hih := ih m τ b (c + 1) (k + 1) h hb (by omega) (by omega) (by omega)
        simp (disch := omega) only [lt_litR, lt_litL, eq_litR, eq_litL, lt_nn, eq_nn, lt_n0, z_cl, add_lit, eq_m1, eq_m1', m1_lt, false_or, or_false, if_pos, if_neg, zbI_some, zbV_some, wr_same, wr_cell, wr_slot, ne_eq, not_true_eq_false, not_false_eq_true, true_and, and_true, false_and, and_false, e10, e01, e00, if_true, if_false, Bool.false_eq_true, lit_ne, lit_lt, eq_self, h, eq_true h1, h2, hih]
    · have hih := ih m τ b c (k + 1) h hb (by omega) (by omega) (by omega)
      simp (disch := omega) only [lt_litR, lt_litL, eq_litR, eq_litL, lt_nn, eq_nn, lt_n0, z_cl, add_lit, eq_m1, eq_m1', m1_lt, false_or, or_false, if_pos, if_neg, zbI_some, zbV_some, wr_same, wr_cell, wr_slot, ne_eq, not_true_eq_false, not_false_eq_true, true_and, and_true, false_and, and_false, e10, e01, e00, if_true, if_false, Bool.false_eq_true, lit_ne, lit_lt, eq_self, h, h1, hih]
theorem m_hasSignal (d : Nat) (τ : zS) {b : Nat} (hb : τ 38 32 = nI b) (hb2 : b ≤ 201) : zM (d + 1) mX8_hasSignal [.inr (.inr 38)] τ = match kSig τ b 0 0 with
    | some g => some (1, 1, wr τ 38 44 g)
    | none => some (1, 0, τ) := by
  rw [qX8_hasSignal_38, qX8_hasSignal_38_0]
  exact m_sigLoop d b _ τ b 0 0 hb hb2 (by omega) (by omega) (by omega)
theorem m_isReady (d : Nat) (τ : zS) {n p b x y : Nat} (hp : τ 38 33 = nI p) (hp2 : p ≤ 200) (hb : τ 38 32 = nI b) (hb2 : b ≤ 201) (hn : n < 1600)
    (ho : (τ 45 n = 9 ∧ τ 47 n = nI x ∧ x < 8) ∨ τ 45 n = 5 ∨ (τ 45 n = 3 ∧ τ 47 n = nI x ∧ x < 8 ∧ τ 48 n = nI y ∧ y < 8)) :
    zM (d + 2) mX8_isReady [.inr (.inr 38), .inl (nI n)] τ = some (1, if (kRdy τ (τ 45 n) (τ 47 n) (τ 48 n)).1 then 1 else 0, (kRdy τ (τ 45 n) (τ 47 n) (τ 48 n)).2) := by
  rw [qX8_isReady_38, qX8_isReady_38_0]
  rcases ho with ⟨h1, h2, h3⟩ | h1 | ⟨h1, h2, h3, h4, h5⟩
  · rw [qX8_isReady_38_11, kRdy]
    simp (disch := omega) only [lt_litR, lt_litL, eq_litR, eq_litL, lt_nn, eq_nn, lt_n0, z_cl, add_lit, eq_m1, eq_m1', m1_lt, false_or, or_false, if_pos, if_neg, zbI_some, zbV_some, wr_same, wr_cell, wr_slot, ne_eq, not_true_eq_false, not_false_eq_true, true_and, and_true, false_and, and_false, e10, e01, e00, if_true, if_false, Bool.false_eq_true, lit_ne, lit_lt, eq_self, h1, h2]
    rw [m_isDone (p := p) (b := b) d τ _ hp hp2 hb hb2]
    cases hk : kDone τ (τ 54 x) with
    | none => simp (disch := omega) only [lt_litR, lt_litL, eq_litR, eq_litL, lt_nn, eq_nn, lt_n0, z_cl, add_lit, eq_m1, eq_m1', m1_lt, false_or, or_false, if_pos, if_neg, zbI_some, zbV_some, wr_same, wr_cell, wr_slot, ne_eq, not_true_eq_false, not_false_eq_true, true_and, and_true, false_and, and_false, e10, e01, e00, if_true, if_false, Bool.false_eq_true, lit_ne, lit_lt, eq_self]; try simp
    | some g => simp (disch := omega) only [lt_litR, lt_litL, eq_litR, eq_litL, lt_nn, eq_nn, lt_n0, z_cl, add_lit, eq_m1, eq_m1', m1_lt, false_or, or_false, if_pos, if_neg, zbI_some, zbV_some, wr_same, wr_cell, wr_slot, ne_eq, not_true_eq_false, not_false_eq_true, true_and, and_true, false_and, and_false, e10, e01, e00, if_true, if_false, Bool.false_eq_true, lit_ne, lit_lt, eq_self]; try simp
  · rw [qX8_isReady_38_27, kRdy]
    have e1 : ((5 : Int32) = 9) = False := by decide
    simp (disch := omega) only [lt_litR, lt_litL, eq_litR, eq_litL, lt_nn, eq_nn, lt_n0, z_cl, add_lit, eq_m1, eq_m1', m1_lt, false_or, or_false, if_pos, if_neg, zbI_some, zbV_some, wr_same, wr_cell, wr_slot, ne_eq, not_true_eq_false, not_false_eq_true, true_and, and_true, false_and, and_false, e10, e01, e00, if_true, if_false, Bool.false_eq_true, lit_ne, lit_lt, eq_self, h1, e1, hb]
    rw [m_hasSignal (b := b) _ _ hb hb2]
    cases hk : kSig τ b 0 0 with
    | none => simp (disch := omega) only [lt_litR, lt_litL, eq_litR, eq_litL, lt_nn, eq_nn, lt_n0, z_cl, add_lit, eq_m1, eq_m1', m1_lt, false_or, or_false, if_pos, if_neg, zbI_some, zbV_some, wr_same, wr_cell, wr_slot, ne_eq, not_true_eq_false, not_false_eq_true, true_and, and_true, false_and, and_false, e10, e01, e00, if_true, if_false, Bool.false_eq_true, lit_ne, lit_lt, eq_self]; try simp
    | some g => simp (disch := omega) only [lt_litR, lt_litL, eq_litR, eq_litL, lt_nn, eq_nn, lt_n0, z_cl, add_lit, eq_m1, eq_m1', m1_lt, false_or, or_false, if_pos, if_neg, zbI_some, zbV_some, wr_same, wr_cell, wr_slot, ne_eq, not_true_eq_false, not_false_eq_true, true_and, and_true, false_and, and_false, e10, e01, e00, if_true, if_false, Bool.false_eq_true, lit_ne, lit_lt, eq_self]; try simp
  · rw [qX8_isReady_38_27, qX8_isReady_38_42, kRdy]
    have e1 : ((3 : Int32) = 9) = False := by decide
    have e2 : ((3 : Int32) = 5) = False := by decide
    simp (disch := omega) only [lt_litR, lt_litL, eq_litR, eq_litL, lt_nn, eq_nn, lt_n0, z_cl, add_lit, eq_m1, eq_m1', m1_lt, false_or, or_false, if_pos, if_neg, zbI_some, zbV_some, wr_same, wr_cell, wr_slot, ne_eq, not_true_eq_false, not_false_eq_true, true_and, and_true, false_and, and_false, e10, e01, e00, if_true, if_false, Bool.false_eq_true, lit_ne, lit_lt, eq_self, h1, h2, e1, e2]
    rw [m_isDone (p := p) (b := b) d τ _ hp hp2 hb hb2]
    cases hk : kDone τ (τ 54 x) with
    | some g =>
      simp (disch := omega) only [lt_litR, lt_litL, eq_litR, eq_litL, lt_nn, eq_nn, lt_n0, z_cl, add_lit, eq_m1, eq_m1', m1_lt, false_or, or_false, if_pos, if_neg, zbI_some, zbV_some, wr_same, wr_cell, wr_slot, ne_eq, not_true_eq_false, not_false_eq_true, true_and, and_true, false_and, and_false, e10, e01, e00, if_true, if_false, Bool.false_eq_true, lit_ne, lit_lt, eq_self]
      simp [wr_wr]
    | none =>
      simp only [Option.isSome_none, Option.getD_none]
      simp (disch := omega) only [lt_litR, lt_litL, eq_litR, eq_litL, lt_nn, eq_nn, lt_n0, z_cl, add_lit, eq_m1, eq_m1', m1_lt, false_or, or_false, if_pos, if_neg, zbI_some, zbV_some, wr_same, wr_cell, wr_slot, ne_eq, not_true_eq_false, not_false_eq_true, true_and, and_true, false_and, and_false, e10, e01, e00, if_true, if_false, Bool.false_eq_true, lit_ne, lit_lt, eq_self]
      rw [qX8_isReady_38_67]
      simp (disch := omega) only [lt_litR, lt_litL, eq_litR, eq_litL, lt_nn, eq_nn, lt_n0, z_cl, add_lit, eq_m1, eq_m1', m1_lt, false_or, or_false, if_pos, if_neg, zbI_some, zbV_some, wr_same, wr_cell, wr_slot, ne_eq, not_true_eq_false, not_false_eq_true, true_and, and_true, false_and, and_false, e10, e01, e00, if_true, if_false, Bool.false_eq_true, lit_ne, lit_lt, eq_self, h4]
      have hk2 : ∀ v : Int32, kDone (wr τ 38 44 (-2)) v = kDone τ v := by
        intro v
        rw [kDone, kDone, kEnd_44]
        simp (disch := omega) only [lt_litR, lt_litL, eq_litR, eq_litL, lt_nn, eq_nn, lt_n0, z_cl, add_lit, eq_m1, eq_m1', m1_lt, false_or, or_false, if_pos, if_neg, zbI_some, zbV_some, wr_same, wr_cell, wr_slot, ne_eq, not_true_eq_false, not_false_eq_true, true_and, and_true, false_and, and_false, e10, e01, e00, if_true, if_false, Bool.false_eq_true, lit_ne, lit_lt, eq_self]
      rw [m_isDone (p := p) (b := b) d _ _ (by simp (disch := omega) only [lt_litR, lt_litL, eq_litR, eq_litL, lt_nn, eq_nn, lt_n0, z_cl, add_lit, eq_m1, eq_m1', m1_lt, false_or, or_false, if_pos, if_neg, zbI_some, zbV_some, wr_same, wr_cell, wr_slot, ne_eq, not_true_eq_false, not_false_eq_true, true_and, and_true, false_and, and_false, e10, e01, e00, if_true, if_false, Bool.false_eq_true, lit_ne, lit_lt, eq_self, hp]) hp2 (by simp (disch := omega) only [lt_litR, lt_litL, eq_litR, eq_litL, lt_nn, eq_nn, lt_n0, z_cl, add_lit, eq_m1, eq_m1', m1_lt, false_or, or_false, if_pos, if_neg, zbI_some, zbV_some, wr_same, wr_cell, wr_slot, ne_eq, not_true_eq_false, not_false_eq_true, true_and, and_true, false_and, and_false, e10, e01, e00, if_true, if_false, Bool.false_eq_true, lit_ne, lit_lt, eq_self, hb]) hb2, hk2]
      cases hk3 : kDone τ (τ 54 y) with
      | none => simp (disch := omega) only [lt_litR, lt_litL, eq_litR, eq_litL, lt_nn, eq_nn, lt_n0, z_cl, add_lit, eq_m1, eq_m1', m1_lt, false_or, or_false, if_pos, if_neg, zbI_some, zbV_some, wr_same, wr_cell, wr_slot, ne_eq, not_true_eq_false, not_false_eq_true, true_and, and_true, false_and, and_false, e10, e01, e00, if_true, if_false, Bool.false_eq_true, lit_ne, lit_lt, eq_self]; simp [wr_wr]
      | some g => simp (disch := omega) only [lt_litR, lt_litL, eq_litR, eq_litL, lt_nn, eq_nn, lt_n0, z_cl, add_lit, eq_m1, eq_m1', m1_lt, false_or, or_false, if_pos, if_neg, zbI_some, zbV_some, wr_same, wr_cell, wr_slot, ne_eq, not_true_eq_false, not_false_eq_true, true_and, and_true, false_and, and_false, e10, e01, e00, if_true, if_false, Bool.false_eq_true, lit_ne, lit_lt, eq_self]; simp [wr_wr]
end
section
-- the X of a program: the class's items and the reference's nodes
def kJoin (s x y : Int32) : Int32 := if s = 3 then (if x < y then 1 else 0) else if s = 4 then x + y else if s = 5 then x - y else x * y
def kPut (s v : Int32) (R : Nat → Int32) (st : List Int32) : List Int32 :=
  if s = 0 then v :: st else if s = 1 then R v.toNatClampNeg :: st else if s = 2 then (match st with
    | x :: r => -x :: r
    | [] => []) else match st with
    | y :: x :: r => kJoin s x y :: r
    | _ => []
def kRunX (S V R : Nat → Int32) : Nat → Nat → List Int32 → List Int32
  | 0, _, st => st
  | c + 1, i, st => kRunX S V R c (i + 1) (kPut (S i) (V i) R st)
theorem kRunX_add (S V R : Nat → Int32) : ∀ a b i st, kRunX S V R (a + b) i st = kRunX S V R b (i + a) (kRunX S V R a i st) := by
  intro a
  induction a with
  | zero => intro b i st; simp [kRunX]
  | succ a ih => intro b i st; rw [Nat.add_right_comm, kRunX, kRunX, ih]; congr 1; omega
/-- node n is the items from i to j; h places of the stack are enough -/
def RepX (S V op a b : Nat → Int32) : Nat → Nat → Nat → Nat → Nat → Prop
  | 0, _, _, _, _ => False
  | k + 1, h, n, i, j => n < 1600 ∧ 1 ≤ h ∧ (
      (j = i + 1 ∧ op n = 48 ∧ S i = 0 ∧ V i = a n) ∨
      (j = i + 1 ∧ op n = 114 ∧ S i = 1 ∧ V i = a n ∧ ∃ r, r < 8 ∧ a n = nI r) ∨
      (∃ x q, op n = 110 ∧ a n = nI x ∧ RepX S V op a b k h x i q ∧ j = q + 1 ∧ S q = 2) ∨
      (∃ x y q r, a n = nI x ∧ b n = nI y ∧ RepX S V op a b k h x i q ∧ RepX S V op a b k (h - 1) y q r ∧ 2 ≤ h ∧ j = r + 1 ∧ ((op n = 60 ∧ S r = 3) ∨ (op n = 43 ∧ S r = 4) ∨ (op n = 45 ∧ S r = 5) ∨ (op n = 42 ∧ S r = 6))))
theorem RepX_lt {S V op a b : Nat → Int32} : ∀ {k h n i j : Nat}, RepX S V op a b k h n i j → i < j := by
  intro k
  induction k with
  | zero => intro h n i j hr; exact hr.elim
  | succ k ih =>
    intro h n i j hr
    rcases hr.2.2 with h1 | h1 | ⟨x, q, h1⟩ | ⟨x, y, q, r, h1⟩
    · omega
    · omega
    · have := ih h1.2.2.1; omega
    · have := ih h1.2.2.1; have := ih h1.2.2.2.1; omega
theorem c_push (d : Nat) (σ : zS) (v : Int32) {t : Nat} (h : σ 34 5 = nI t) (ht : t < 34) : zM (d + 1) mX4_push [.inr (.inr 34), .inl v] σ = some (0, 0, wr (wr σ 37 t v) 34 5 (nI (t + 1))) := by
  rw [qX4_push_34, qX4_push_34_0]
  simp (disch := omega) only [lt_litR, lt_litL, eq_litR, eq_litL, lt_nn, eq_nn, lt_n0, z_cl, add_lit, eq_m1, eq_m1', m1_lt, false_or, or_false, if_pos, if_neg, zbI_some, zbV_some, wr_same, wr_cell, wr_slot, ne_eq, not_true_eq_false, not_false_eq_true, true_and, and_true, false_and, and_false, e10, e01, e00, if_true, if_false, Bool.false_eq_true, lit_ne, lit_lt, eq_self, h]
theorem c_pop (d : Nat) (σ : zS) {t : Nat} (h : σ 34 5 = nI (t + 1)) (ht : t < 34) : zM (d + 1) mX4_pop [.inr (.inr 34)] σ = some (1, σ 37 t, wr σ 34 5 (nI t)) := by
  rw [qX4_pop_34, qX4_pop_34_0]
  simp (disch := omega) only [lt_litR, lt_litL, eq_litR, eq_litL, lt_nn, eq_nn, lt_n0, z_cl, add_lit, eq_m1, eq_m1', m1_lt, false_or, or_false, if_pos, if_neg, zbI_some, zbV_some, wr_same, wr_cell, wr_slot, ne_eq, not_true_eq_false, not_false_eq_true, true_and, and_true, false_and, and_false, e10, e01, e00, if_true, if_false, Bool.false_eq_true, lit_ne, lit_lt, eq_self, h, nI_pred]
theorem c_get (d : Nat) (σ : zS) {r : Nat} (hr : r < 8) : zM (d + 1) mX3_get [.inr (.inr 30), .inl (nI r)] σ = some (1, σ 31 r, σ) := by
  rw [qX3_get_30, qX3_get_30_0]
  simp (disch := omega) only [lt_litR, lt_litL, eq_litR, eq_litL, lt_nn, eq_nn, lt_n0, z_cl, add_lit, eq_m1, eq_m1', m1_lt, false_or, or_false, if_pos, if_neg, zbI_some, zbV_some, wr_same, wr_cell, wr_slot, ne_eq, not_true_eq_false, not_false_eq_true, true_and, and_true, false_and, and_false, e10, e01, e00, if_true, if_false, Bool.false_eq_true, lit_ne, lit_lt, eq_self]
theorem c_join (d : Nat) (σ : zS) (s x y : Int32) : zM (d + 1) mX4_join [.inl s, .inl x, .inl y] σ = some (1, kJoin s x y, σ) := by
  rw [qX4_join, qX4_join_0, kJoin]
  by_cases h1 : s = 3
  · by_cases h2 : x < y <;> simp [h1, h2]
  · by_cases h2 : s = 4
    · simp [h1, h2]
    · by_cases h3 : s = 5 <;> simp [h1, h2, h3]
theorem c_itemSort (d : Nat) (σ : zS) {i n : Nat} (hn : σ 15 8 = nI n) (hi : i < n) (hn2 : n ≤ 400) : zM (d + 1) mX1_itemSort [.inr (.inr 15), .inl (nI i)] σ = some (1, σ 21 i, σ) := by
  rw [qX1_itemSort_15, qX1_itemSort_15_0]
  simp (disch := omega) only [lt_litR, lt_litL, eq_litR, eq_litL, lt_nn, eq_nn, lt_n0, z_cl, add_lit, eq_m1, eq_m1', m1_lt, false_or, or_false, if_pos, if_neg, zbI_some, zbV_some, wr_same, wr_cell, wr_slot, ne_eq, not_true_eq_false, not_false_eq_true, true_and, and_true, false_and, and_false, e10, e01, e00, if_true, if_false, Bool.false_eq_true, lit_ne, lit_lt, eq_self, hn]
theorem c_itemValue (d : Nat) (σ : zS) {i n : Nat} (hn : σ 15 8 = nI n) (hi : i < n) (hn2 : n ≤ 400) : zM (d + 1) mX1_itemValue [.inr (.inr 15), .inl (nI i)] σ = some (1, σ 22 i, σ) := by
  rw [qX1_itemValue_15, qX1_itemValue_15_0]
  simp (disch := omega) only [lt_litR, lt_litL, eq_litR, eq_litL, lt_nn, eq_nn, lt_n0, z_cl, add_lit, eq_m1, eq_m1', m1_lt, false_or, or_false, if_pos, if_neg, zbI_some, zbV_some, wr_same, wr_cell, wr_slot, ne_eq, not_true_eq_false, not_false_eq_true, true_and, and_true, false_and, and_false, e10, e01, e00, if_true, if_false, Bool.false_eq_true, lit_ne, lit_lt, eq_self, hn]
/-- what the class's stack does with a piece of items -/
def XC (S V R : Nat → Int32) (h i j : Nat) (v : Int32) : Prop := ∀ (d ni J t : Nat) (σ : zS), σ 21 = S → σ 22 = V → (∀ r, r < 8 → σ 31 r = R r) → σ 15 8 = nI ni → ni ≤ 400 → J ≤ ni → j ≤ J → σ 34 5 = nI t → t + h ≤ 34 →
  ∃ σ', (∀ m, zexec zc_X4_workOut zu_X4_workOut (zM (d + 2)) (m + (j - i)) 35 [.inr (.inr 34), .inl (nI J), .inl (nI i)] σ = zexec zc_X4_workOut zu_X4_workOut (zM (d + 2)) m 35 [.inr (.inr 34), .inl (nI J), .inl (nI j)] σ') ∧
    σ' 34 5 = nI (t + 1) ∧ σ' 37 t = v ∧ (∀ u, u < t → σ' 37 u = σ 37 u) ∧ (∀ c, c ≠ 34 → c ≠ 37 → σ' c = σ c) ∧ (∀ k, k ≠ 5 → σ' 34 k = σ 34 k)
theorem RepX_val {S V op a b : Nat → Int32} (R : Nat → Int32) : ∀ {k h n i j : Nat}, RepX S V op a b k h n i j → ∃ v, (∀ st, kRunX S V R (j - i) i st = v :: st) ∧ (∀ (d : Nat) (τ : zS), τ 45 = op → τ 46 = a → τ 47 = b → (∀ r, r < 8 → τ 54 r = R r) → zM (d + k) mX8_work [.inr (.inr 38), .inl (nI n)] τ = some (1, v, τ)) ∧ XC S V R h i j v := by
  intro k
  induction k with
  | zero => intro h n i j hr; exact hr.elim
  | succ k ih =>
    intro h n i j hr
    obtain ⟨hn, hh, hr⟩ := hr
    rcases hr with ⟨h1, h2, h3, h4⟩ | ⟨h1, h2, h3, h4, r, h5, h6⟩ | ⟨x, q, h1, h2, h3, h4, h5⟩ | ⟨x, y, q, r, h1, h2, h3, h4, h5, h6, h7⟩
    · subst h1
      refine ⟨a n, fun st => ?_, fun d τ e1 e2 e3 e4 => ?_, ?_⟩
      · rw [show i + 1 - i = 0 + 1 by omega, kRunX, kRunX, h3, h4]; simp [kPut]
      · rw [← Nat.add_assoc, qX8_work_38, qX8_work_38_0, qX8_work_38_64]
        simp (disch := omega) only [lt_litR, lt_litL, eq_litR, eq_litL, lt_nn, eq_nn, lt_n0, z_cl, add_lit, eq_m1, eq_m1', m1_lt, false_or, or_false, if_pos, if_neg, zbI_some, zbV_some, wr_same, wr_cell, wr_slot, ne_eq, not_true_eq_false, not_false_eq_true, true_and, and_true, false_and, and_false, e10, e01, e00, if_true, if_false, Bool.false_eq_true, lit_ne, lit_lt, eq_self, e1, e2, h2]
      · intro d ni J t σ s1 s2 s3 s4 s5 s6 s7 s8 s9
        refine ⟨wr (wr σ 37 t (a n)) 34 5 (nI (t + 1)), fun m => ?_, by simp (disch := omega) only [lt_litR, lt_litL, eq_litR, eq_litL, lt_nn, eq_nn, lt_n0, z_cl, add_lit, eq_m1, eq_m1', m1_lt, false_or, or_false, if_pos, if_neg, zbI_some, zbV_some, wr_same, wr_cell, wr_slot, ne_eq, not_true_eq_false, not_false_eq_true, true_and, and_true, false_and, and_false, e10, e01, e00, if_true, if_false, Bool.false_eq_true, lit_ne, lit_lt, eq_self], by simp (disch := omega) only [lt_litR, lt_litL, eq_litR, eq_litL, lt_nn, eq_nn, lt_n0, z_cl, add_lit, eq_m1, eq_m1', m1_lt, false_or, or_false, if_pos, if_neg, zbI_some, zbV_some, wr_same, wr_cell, wr_slot, ne_eq, not_true_eq_false, not_false_eq_true, true_and, and_true, false_and, and_false, e10, e01, e00, if_true, if_false, Bool.false_eq_true, lit_ne, lit_lt, eq_self], fun u hu => by simp (disch := omega) only [lt_litR, lt_litL, eq_litR, eq_litL, lt_nn, eq_nn, lt_n0, z_cl, add_lit, eq_m1, eq_m1', m1_lt, false_or, or_false, if_pos, if_neg, zbI_some, zbV_some, wr_same, wr_cell, wr_slot, ne_eq, not_true_eq_false, not_false_eq_true, true_and, and_true, false_and, and_false, e10, e01, e00, if_true, if_false, Bool.false_eq_true, lit_ne, lit_lt, eq_self], fun c c1 c2 => by simp (disch := omega) only [lt_litR, lt_litL, eq_litR, eq_litL, lt_nn, eq_nn, lt_n0, z_cl, add_lit, eq_m1, eq_m1', m1_lt, false_or, or_false, if_pos, if_neg, zbI_some, zbV_some, wr_same, wr_cell, wr_slot, ne_eq, not_true_eq_false, not_false_eq_true, true_and, and_true, false_and, and_false, e10, e01, e00, if_true, if_false, Bool.false_eq_true, lit_ne, lit_lt, eq_self], fun k hk => by simp (disch := omega) only [lt_litR, lt_litL, eq_litR, eq_litL, lt_nn, eq_nn, lt_n0, z_cl, add_lit, eq_m1, eq_m1', m1_lt, false_or, or_false, if_pos, if_neg, zbI_some, zbV_some, wr_same, wr_cell, wr_slot, ne_eq, not_true_eq_false, not_false_eq_true, true_and, and_true, false_and, and_false, e10, e01, e00, if_true, if_false, Bool.false_eq_true, lit_ne, lit_lt, eq_self]⟩
        rw [show m + (i + 1 - i) = m + 1 by omega, qX4_workOut_34_35, c_itemSort _ _ s4 (by omega) s5, zbI_some, c_itemValue _ _ s4 (by omega) s5, zbI_some, qX4_work_34, qX4_work_34_0, c_push _ _ _ s8 (by omega), s1, s2, h3, h4]
        simp (disch := omega) only [lt_litR, lt_litL, eq_litR, eq_litL, lt_nn, eq_nn, lt_n0, z_cl, add_lit, eq_m1, eq_m1', m1_lt, false_or, or_false, if_pos, if_neg, zbI_some, zbV_some, wr_same, wr_cell, wr_slot, ne_eq, not_true_eq_false, not_false_eq_true, true_and, and_true, false_and, and_false, e10, e01, e00, if_true, if_false, Bool.false_eq_true, lit_ne, lit_lt, eq_self]
    · subst h1
      refine ⟨R r, fun st => ?_, fun d τ e1 e2 e3 e4 => ?_, ?_⟩
      · rw [show i + 1 - i = 0 + 1 by omega, kRunX, kRunX, h3, h4, h6]
        simp [kPut, z_cl (show r < 2 ^ 31 by omega)]
      · rw [← Nat.add_assoc, qX8_work_38, qX8_work_38_0, qX8_work_38_71]
        simp (disch := omega) only [lt_litR, lt_litL, eq_litR, eq_litL, lt_nn, eq_nn, lt_n0, z_cl, add_lit, eq_m1, eq_m1', m1_lt, false_or, or_false, if_pos, if_neg, zbI_some, zbV_some, wr_same, wr_cell, wr_slot, ne_eq, not_true_eq_false, not_false_eq_true, true_and, and_true, false_and, and_false, e10, e01, e00, if_true, if_false, Bool.false_eq_true, lit_ne, lit_lt, eq_self, e1, e2, h2, h6, e4 r h5]
      · intro d ni J t σ s1 s2 s3 s4 s5 s6 s7 s8 s9
        refine ⟨wr (wr σ 37 t (R r)) 34 5 (nI (t + 1)), fun m => ?_, by simp (disch := omega) only [lt_litR, lt_litL, eq_litR, eq_litL, lt_nn, eq_nn, lt_n0, z_cl, add_lit, eq_m1, eq_m1', m1_lt, false_or, or_false, if_pos, if_neg, zbI_some, zbV_some, wr_same, wr_cell, wr_slot, ne_eq, not_true_eq_false, not_false_eq_true, true_and, and_true, false_and, and_false, e10, e01, e00, if_true, if_false, Bool.false_eq_true, lit_ne, lit_lt, eq_self], by simp (disch := omega) only [lt_litR, lt_litL, eq_litR, eq_litL, lt_nn, eq_nn, lt_n0, z_cl, add_lit, eq_m1, eq_m1', m1_lt, false_or, or_false, if_pos, if_neg, zbI_some, zbV_some, wr_same, wr_cell, wr_slot, ne_eq, not_true_eq_false, not_false_eq_true, true_and, and_true, false_and, and_false, e10, e01, e00, if_true, if_false, Bool.false_eq_true, lit_ne, lit_lt, eq_self], fun u hu => by simp (disch := omega) only [lt_litR, lt_litL, eq_litR, eq_litL, lt_nn, eq_nn, lt_n0, z_cl, add_lit, eq_m1, eq_m1', m1_lt, false_or, or_false, if_pos, if_neg, zbI_some, zbV_some, wr_same, wr_cell, wr_slot, ne_eq, not_true_eq_false, not_false_eq_true, true_and, and_true, false_and, and_false, e10, e01, e00, if_true, if_false, Bool.false_eq_true, lit_ne, lit_lt, eq_self], fun c c1 c2 => by simp (disch := omega) only [lt_litR, lt_litL, eq_litR, eq_litL, lt_nn, eq_nn, lt_n0, z_cl, add_lit, eq_m1, eq_m1', m1_lt, false_or, or_false, if_pos, if_neg, zbI_some, zbV_some, wr_same, wr_cell, wr_slot, ne_eq, not_true_eq_false, not_false_eq_true, true_and, and_true, false_and, and_false, e10, e01, e00, if_true, if_false, Bool.false_eq_true, lit_ne, lit_lt, eq_self], fun k hk => by simp (disch := omega) only [lt_litR, lt_litL, eq_litR, eq_litL, lt_nn, eq_nn, lt_n0, z_cl, add_lit, eq_m1, eq_m1', m1_lt, false_or, or_false, if_pos, if_neg, zbI_some, zbV_some, wr_same, wr_cell, wr_slot, ne_eq, not_true_eq_false, not_false_eq_true, true_and, and_true, false_and, and_false, e10, e01, e00, if_true, if_false, Bool.false_eq_true, lit_ne, lit_lt, eq_self]⟩
        rw [show m + (i + 1 - i) = m + 1 by omega, qX4_workOut_34_35, c_itemSort _ _ s4 (by omega) s5, zbI_some, c_itemValue _ _ s4 (by omega) s5, zbI_some, qX4_work_34, qX4_work_34_0, s1, s2, h3, h4, h6, c_get _ _ h5, zbI_some, s3 r h5]
        have hpush := fun v => c_push d σ v s8 (show t < 34 by omega)
        have hpush1 := fun v => c_push (d + 1) σ v s8 (show t < 34 by omega)
        simp (disch := omega) only [lt_litR, lt_litL, eq_litR, eq_litL, lt_nn, eq_nn, lt_n0, z_cl, add_lit, eq_m1, eq_m1', m1_lt, false_or, or_false, if_pos, if_neg, zbI_some, zbV_some, wr_same, wr_cell, wr_slot, ne_eq, not_true_eq_false, not_false_eq_true, true_and, and_true, false_and, and_false, e10, e01, e00, if_true, if_false, Bool.false_eq_true, lit_ne, lit_lt, eq_self, hpush, hpush1]
    · obtain ⟨v, v1, v2, v3⟩ := ih h3
      have hlt := RepX_lt h3
      subst h4
      refine ⟨-v, fun st => ?_, fun d τ e1 e2 e3 e4 => ?_, ?_⟩
      · rw [show q + 1 - i = (q - i) + (0 + 1) by omega, kRunX_add, v1, kRunX, kRunX, show i + (q - i) = q by omega, h5]; simp [kPut]
      · rw [← Nat.add_assoc, qX8_work_38, qX8_work_38_0, qX8_work_38_83]
        simp (disch := omega) only [lt_litR, lt_litL, eq_litR, eq_litL, lt_nn, eq_nn, lt_n0, z_cl, add_lit, eq_m1, eq_m1', m1_lt, false_or, or_false, if_pos, if_neg, zbI_some, zbV_some, wr_same, wr_cell, wr_slot, ne_eq, not_true_eq_false, not_false_eq_true, true_and, and_true, false_and, and_false, e10, e01, e00, if_true, if_false, Bool.false_eq_true, lit_ne, lit_lt, eq_self, e1, e2, h1, h2, v2 d τ e1 e2 e3 e4]
      · intro d ni J t σ s1 s2 s3 s4 s5 s6 s7 s8 s9
        obtain ⟨σ', w1, w2, w3, w4, w5, w6⟩ := v3 d ni J t σ s1 s2 s3 s4 s5 s6 (by omega) s8 (by omega)
        have t4 : σ' 15 8 = nI ni := by rw [w5 15 (by omega) (by omega), s4]
        have t1 : σ' 21 = S := by rw [w5 21 (by omega) (by omega), s1]
        have t2 : σ' 22 = V := by rw [w5 22 (by omega) (by omega), s2]
        refine ⟨wr (wr (wr σ' 34 5 (nI t)) 37 t (-v)) 34 5 (nI (t + 1)), fun m => ?_, by simp (disch := omega) only [lt_litR, lt_litL, eq_litR, eq_litL, lt_nn, eq_nn, lt_n0, z_cl, add_lit, eq_m1, eq_m1', m1_lt, false_or, or_false, if_pos, if_neg, zbI_some, zbV_some, wr_same, wr_cell, wr_slot, ne_eq, not_true_eq_false, not_false_eq_true, true_and, and_true, false_and, and_false, e10, e01, e00, if_true, if_false, Bool.false_eq_true, lit_ne, lit_lt, eq_self], by simp (disch := omega) only [lt_litR, lt_litL, eq_litR, eq_litL, lt_nn, eq_nn, lt_n0, z_cl, add_lit, eq_m1, eq_m1', m1_lt, false_or, or_false, if_pos, if_neg, zbI_some, zbV_some, wr_same, wr_cell, wr_slot, ne_eq, not_true_eq_false, not_false_eq_true, true_and, and_true, false_and, and_false, e10, e01, e00, if_true, if_false, Bool.false_eq_true, lit_ne, lit_lt, eq_self], fun u hu => by simp (disch := omega) only [lt_litR, lt_litL, eq_litR, eq_litL, lt_nn, eq_nn, lt_n0, z_cl, add_lit, eq_m1, eq_m1', m1_lt, false_or, or_false, if_pos, if_neg, zbI_some, zbV_some, wr_same, wr_cell, wr_slot, ne_eq, not_true_eq_false, not_false_eq_true, true_and, and_true, false_and, and_false, e10, e01, e00, if_true, if_false, Bool.false_eq_true, lit_ne, lit_lt, eq_self, w4 u hu], fun c c1 c2 => by simp (disch := omega) only [lt_litR, lt_litL, eq_litR, eq_litL, lt_nn, eq_nn, lt_n0, z_cl, add_lit, eq_m1, eq_m1', m1_lt, false_or, or_false, if_pos, if_neg, zbI_some, zbV_some, wr_same, wr_cell, wr_slot, ne_eq, not_true_eq_false, not_false_eq_true, true_and, and_true, false_and, and_false, e10, e01, e00, if_true, if_false, Bool.false_eq_true, lit_ne, lit_lt, eq_self, w5 c c1 c2], fun k hk => by simp (disch := omega) only [lt_litR, lt_litL, eq_litR, eq_litL, lt_nn, eq_nn, lt_n0, z_cl, add_lit, eq_m1, eq_m1', m1_lt, false_or, or_false, if_pos, if_neg, zbI_some, zbV_some, wr_same, wr_cell, wr_slot, ne_eq, not_true_eq_false, not_false_eq_true, true_and, and_true, false_and, and_false, e10, e01, e00, if_true, if_false, Bool.false_eq_true, lit_ne, lit_lt, eq_self, w6 k hk]⟩
        rw [show m + (q + 1 - i) = (m + 1) + (q - i) by omega, w1, qX4_workOut_34_35, c_itemSort _ _ t4 (by omega) s5, zbI_some, c_itemValue _ _ t4 (by omega) s5, zbI_some, qX4_work_34, qX4_work_34_0, t1, h5, c_pop (t := t) _ _ w2 (by omega), zbI_some, w3]
        have hpush := fun v => c_push d (wr σ' 34 5 (nI t)) v (t := t) (by simp (disch := omega) only [lt_litR, lt_litL, eq_litR, eq_litL, lt_nn, eq_nn, lt_n0, z_cl, add_lit, eq_m1, eq_m1', m1_lt, false_or, or_false, if_pos, if_neg, zbI_some, zbV_some, wr_same, wr_cell, wr_slot, ne_eq, not_true_eq_false, not_false_eq_true, true_and, and_true, false_and, and_false, e10, e01, e00, if_true, if_false, Bool.false_eq_true, lit_ne, lit_lt, eq_self]) (show t < 34 by omega)
        rw [if_pos (nI_lt (by omega) (by omega)), if_neg (by decide), if_neg (by decide), if_pos rfl, hpush, zbV_some, zbV_some, add_lit]
    · obtain ⟨v, v1, v2, v3⟩ := ih h3
      obtain ⟨w, w1, w2, w3⟩ := ih h4
      have hlt := RepX_lt h3
      have hlt2 := RepX_lt h4
      subst h6
      refine ⟨kJoin (S r) v w, fun st => ?_, fun d τ e1 e2 e3 e4 => ?_, ?_⟩
      · rw [show r + 1 - i = (q - i) + ((r - q) + (0 + 1)) by omega, kRunX_add, v1, kRunX_add, show i + (q - i) = q by omega, w1, kRunX, kRunX, show q + (r - q) = r by omega]
        rcases h7 with ⟨_, h7⟩ | ⟨_, h7⟩ | ⟨_, h7⟩ | ⟨_, h7⟩ <;> rw [h7] <;> simp [kPut]
      · rw [← Nat.add_assoc, qX8_work_38, qX8_work_38_0]
        have f1 := v2 d τ e1 e2 e3 e4
        have f2 := w2 d τ e1 e2 e3 e4
        rcases h7 with ⟨h7, h8⟩ | ⟨h7, h8⟩ | ⟨h7, h8⟩ | ⟨h7, h8⟩
        · rw [qX8_work_38_161]
          simp (disch := omega) only [lt_litR, lt_litL, eq_litR, eq_litL, lt_nn, eq_nn, lt_n0, z_cl, add_lit, eq_m1, eq_m1', m1_lt, false_or, or_false, if_pos, if_neg, zbI_some, zbV_some, wr_same, wr_cell, wr_slot, ne_eq, not_true_eq_false, not_false_eq_true, true_and, and_true, false_and, and_false, e10, e01, e00, if_true, if_false, Bool.false_eq_true, lit_ne, lit_lt, eq_self, e1, e2, e3, h1, h2, h7, h8, f1, f2]
          by_cases hlt : v < w <;> simp [kJoin, hlt]
        · rw [qX8_work_38_95]
          simp (disch := omega) only [lt_litR, lt_litL, eq_litR, eq_litL, lt_nn, eq_nn, lt_n0, z_cl, add_lit, eq_m1, eq_m1', m1_lt, false_or, or_false, if_pos, if_neg, zbI_some, zbV_some, wr_same, wr_cell, wr_slot, ne_eq, not_true_eq_false, not_false_eq_true, true_and, and_true, false_and, and_false, e10, e01, e00, if_true, if_false, Bool.false_eq_true, lit_ne, lit_lt, eq_self, e1, e2, e3, h1, h2, h7, h8, f1, f2]
          simp [kJoin]
        · rw [qX8_work_38_117]
          simp (disch := omega) only [lt_litR, lt_litL, eq_litR, eq_litL, lt_nn, eq_nn, lt_n0, z_cl, add_lit, eq_m1, eq_m1', m1_lt, false_or, or_false, if_pos, if_neg, zbI_some, zbV_some, wr_same, wr_cell, wr_slot, ne_eq, not_true_eq_false, not_false_eq_true, true_and, and_true, false_and, and_false, e10, e01, e00, if_true, if_false, Bool.false_eq_true, lit_ne, lit_lt, eq_self, e1, e2, e3, h1, h2, h7, h8, f1, f2]
          simp [kJoin]
        · rw [qX8_work_38_139]
          simp (disch := omega) only [lt_litR, lt_litL, eq_litR, eq_litL, lt_nn, eq_nn, lt_n0, z_cl, add_lit, eq_m1, eq_m1', m1_lt, false_or, or_false, if_pos, if_neg, zbI_some, zbV_some, wr_same, wr_cell, wr_slot, ne_eq, not_true_eq_false, not_false_eq_true, true_and, and_true, false_and, and_false, e10, e01, e00, if_true, if_false, Bool.false_eq_true, lit_ne, lit_lt, eq_self, e1, e2, e3, h1, h2, h7, h8, f1, f2]
          simp [kJoin]
      · intro d ni J t σ s1 s2 s3 s4 s5 s6 s7 s8 s9
        obtain ⟨σ1, a1, a2, a3, a4, a5, a6⟩ := v3 d ni J t σ s1 s2 s3 s4 s5 s6 (by omega) s8 (by omega)
        obtain ⟨σ', b1, b2, b3, b4, b5, b6⟩ := w3 d ni J (t + 1) σ1 (by rw [a5 _ (by omega) (by omega), s1]) (by rw [a5 _ (by omega) (by omega), s2]) (fun r hr => by rw [a5 _ (by omega) (by omega), s3 r hr]) (by rw [a5 _ (by omega) (by omega), s4]) s5 s6 (by omega) a2 (by omega)
        have t4 : σ' 15 8 = nI ni := by rw [b5 15 (by omega) (by omega), a5 15 (by omega) (by omega), s4]
        have t1 : σ' 21 = S := by rw [b5 21 (by omega) (by omega), a5 21 (by omega) (by omega), s1]
        refine ⟨wr (wr (wr (wr σ' 34 5 (nI (t + 1))) 34 5 (nI t)) 37 t (kJoin (S r) v w)) 34 5 (nI (t + 1)), fun m => ?_, by simp (disch := omega) only [lt_litR, lt_litL, eq_litR, eq_litL, lt_nn, eq_nn, lt_n0, z_cl, add_lit, eq_m1, eq_m1', m1_lt, false_or, or_false, if_pos, if_neg, zbI_some, zbV_some, wr_same, wr_cell, wr_slot, ne_eq, not_true_eq_false, not_false_eq_true, true_and, and_true, false_and, and_false, e10, e01, e00, if_true, if_false, Bool.false_eq_true, lit_ne, lit_lt, eq_self], by simp (disch := omega) only [lt_litR, lt_litL, eq_litR, eq_litL, lt_nn, eq_nn, lt_n0, z_cl, add_lit, eq_m1, eq_m1', m1_lt, false_or, or_false, if_pos, if_neg, zbI_some, zbV_some, wr_same, wr_cell, wr_slot, ne_eq, not_true_eq_false, not_false_eq_true, true_and, and_true, false_and, and_false, e10, e01, e00, if_true, if_false, Bool.false_eq_true, lit_ne, lit_lt, eq_self], fun u hu => by simp (disch := omega) only [lt_litR, lt_litL, eq_litR, eq_litL, lt_nn, eq_nn, lt_n0, z_cl, add_lit, eq_m1, eq_m1', m1_lt, false_or, or_false, if_pos, if_neg, zbI_some, zbV_some, wr_same, wr_cell, wr_slot, ne_eq, not_true_eq_false, not_false_eq_true, true_and, and_true, false_and, and_false, e10, e01, e00, if_true, if_false, Bool.false_eq_true, lit_ne, lit_lt, eq_self, b4 u (by omega), a4 u hu], fun c c1 c2 => by simp (disch := omega) only [lt_litR, lt_litL, eq_litR, eq_litL, lt_nn, eq_nn, lt_n0, z_cl, add_lit, eq_m1, eq_m1', m1_lt, false_or, or_false, if_pos, if_neg, zbI_some, zbV_some, wr_same, wr_cell, wr_slot, ne_eq, not_true_eq_false, not_false_eq_true, true_and, and_true, false_and, and_false, e10, e01, e00, if_true, if_false, Bool.false_eq_true, lit_ne, lit_lt, eq_self, b5 c c1 c2, a5 c c1 c2], fun k hk => by simp (disch := omega) only [lt_litR, lt_litL, eq_litR, eq_litL, lt_nn, eq_nn, lt_n0, z_cl, add_lit, eq_m1, eq_m1', m1_lt, false_or, or_false, if_pos, if_neg, zbI_some, zbV_some, wr_same, wr_cell, wr_slot, ne_eq, not_true_eq_false, not_false_eq_true, true_and, and_true, false_and, and_false, e10, e01, e00, if_true, if_false, Bool.false_eq_true, lit_ne, lit_lt, eq_self, b6 k hk, a6 k hk]⟩
        rw [show m + (r + 1 - i) = (m + 1) + (r - q) + (q - i) by omega, a1, b1, qX4_workOut_34_35, c_itemSort _ _ t4 (by omega) s5, zbI_some, c_itemValue _ _ t4 (by omega) s5, zbI_some, qX4_work_34, qX4_work_34_0, t1]
        have hpop1 := c_pop (t := t + 1) d σ' b2 (by omega)
        have hpop2 := c_pop (t := t) d (wr σ' 34 5 (nI (t + 1))) (by simp (disch := omega) only [lt_litR, lt_litL, eq_litR, eq_litL, lt_nn, eq_nn, lt_n0, z_cl, add_lit, eq_m1, eq_m1', m1_lt, false_or, or_false, if_pos, if_neg, zbI_some, zbV_some, wr_same, wr_cell, wr_slot, ne_eq, not_true_eq_false, not_false_eq_true, true_and, and_true, false_and, and_false, e10, e01, e00, if_true, if_false, Bool.false_eq_true, lit_ne, lit_lt, eq_self]) (by omega)
        have hpush := fun v => c_push d (wr (wr σ' 34 5 (nI (t + 1))) 34 5 (nI t)) v (t := t) (by simp (disch := omega) only [lt_litR, lt_litL, eq_litR, eq_litL, lt_nn, eq_nn, lt_n0, z_cl, add_lit, eq_m1, eq_m1', m1_lt, false_or, or_false, if_pos, if_neg, zbI_some, zbV_some, wr_same, wr_cell, wr_slot, ne_eq, not_true_eq_false, not_false_eq_true, true_and, and_true, false_and, and_false, e10, e01, e00, if_true, if_false, Bool.false_eq_true, lit_ne, lit_lt, eq_self]) (show t < 34 by omega)
        have hv : σ' 37 t = v := by rw [b4 t (by omega), a3]
        have hS : ¬ S r = 0 ∧ ¬ S r = 1 ∧ ¬ S r = 2 := by
          rcases h7 with ⟨_, h7⟩ | ⟨_, h7⟩ | ⟨_, h7⟩ | ⟨_, h7⟩ <;> rw [h7] <;> decide
        simp (disch := omega) only [lt_litR, lt_litL, eq_litR, eq_litL, lt_nn, eq_nn, lt_n0, z_cl, add_lit, eq_m1, eq_m1', m1_lt, false_or, or_false, if_pos, if_neg, zbI_some, zbV_some, wr_same, wr_cell, wr_slot, ne_eq, not_true_eq_false, not_false_eq_true, true_and, and_true, false_and, and_false, e10, e01, e00, if_true, if_false, Bool.false_eq_true, lit_ne, lit_lt, eq_self, hS.1, hS.2.1, hS.2.2, hpop1, hpop2, b3, c_join, hv, hpush]
end
